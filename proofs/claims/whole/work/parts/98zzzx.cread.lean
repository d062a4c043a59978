/-! RULES, read in the class: the whole. -/
abbrev Cls : Type := Nat × List It × List It
/-- clauses, parts, where the last one ended -/
abbrev RTt : Type := List Cls × Nat × Nat
def clR (b : Nat → Nat) (n : Nat) (s : RTt) (q : Nat) : Sum Nat (RTt × Nat) :=
  if whT b n 0 (.inr q) = 0 then .inl (1 + 8 * q) else if 12 ≤ s.1.length then .inl (1 + 8 * q + 4) else
  bdS (tsF b n 11 10 s.2.1 (wl b n q)) fun z => .inr ((s.1 ++ [(whT b n 0 (.inr q), z.1, z.2.1)], z.2.2.1, bk b n z.2.2.2), bk b n z.2.2.2)
def catC (l : List Cls) : List It := l.flatMap (fun c => c.2.2)
def catD (l : List Cls) : List It := l.flatMap (fun c => c.2.1)
theorem catC_a {l : List Cls} {c : Cls} : catC (l ++ [c]) = catC l ++ c.2.2 := by simp [catC]
theorem catD_a {l : List Cls} {c : Cls} : catD (l ++ [c]) = catD l ++ c.2.1 := by simp [catD]
def cN : Cls := (0, [], [])
/-- a clause that was read -/
def ClO (c : Cls) : Prop := 1 ≤ c.1 ∧ c.1 ≤ 3 ∧ ∃ n ma p k q, OkB n ma p (c.2.1, c.2.2, k, q)
def rsO (s : RTt) : Prop := s.1.length ≤ 12 ∧ s.2.1 ≤ 60 ∧ (catC s.1).length ≤ s.2.2 ∧ (catD s.1).length ≤ s.2.2 ∧ ∀ c ∈ s.1, ClO c
theorem wh0_le {b : Nat → Nat} {n q : Nat} : whT b n 0 (.inr q) ≤ 3 := by
  rw [wh_0]
  repeat' split
  all_goals omega
theorem wh0_isL {b : Nat → Nat} {n q : Nat} (h : ¬ whT b n 0 (.inr q) = 0) : isL b n q = true := by
  rw [wh_0] at h
  repeat' split at h
  all_goals first
    | (next g => exact (tk_iff.mp g).1)
    | exact absurd rfl h
theorem clR_ok {b : Nat → Nat} {n q : Nat} {s : RTt} {z : RTt × Nat} (hq : q ≤ n) (ho : rsO s) (hl : s.2.2 ≤ q) (h : clR b n s q = .inr z) : rsO z.1 ∧ z.1.1.length = s.1.length + 1 ∧ z.2 ≤ n ∧ z.1.2.2 ≤ z.2 := by
  unfold clR at h
  by_cases h0 : whT b n 0 (.inr q) = 0
  · rw [if_pos h0] at h; cases h
  · rw [if_neg h0] at h
    by_cases h1 : 12 ≤ s.1.length
    · rw [if_pos h1] at h; cases h
    · rw [if_neg h1] at h
      have hL := wh0_isL h0
      have w1 := wl_lt hL
      have w2 := (wl_le (b := b) hq).2
      obtain ⟨o1, o2, o3, o4, o5⟩ := ho
      cases ht : tsF b n 11 10 s.2.1 (wl b n q) with
      | inl e => rw [bdS_l ht] at h; cases h
      | inr y =>
        rw [bdS_r ht] at h
        have hB := (ts_okQ (b := b) (n := n) 11 10 (by omega) s.2.1 (wl b n q) o2 w2).1 y ht
        obtain ⟨y1, y2, y3, y4, y5, y6, y7⟩ := hB
        have hb := bk_le (b := b) y3
        cases h
        refine ⟨⟨?_, y2, ?_, ?_, fun c hc => ?_⟩, ?_, hb.2, Nat.le_refl _⟩
        · show (s.1 ++ [_]).length ≤ 12
          rw [List.length_append]; show s.1.length + 1 ≤ 12; omega
        · show (catC (s.1 ++ [_])).length ≤ bk b n y.2.2.2
          rw [catC_a, List.length_append]; show _ + y.2.1.length ≤ _; omega
        · show (catD (s.1 ++ [_])).length ≤ bk b n y.2.2.2
          rw [catD_a, List.length_append]; show _ + y.1.length ≤ _; omega
        · rcases List.mem_append.mp hc with hc | hc
          · exact o5 c hc
          · have hc := List.mem_singleton.mp hc
            subst hc
            exact ⟨by show 1 ≤ whT b n 0 (.inr q); omega, wh0_le, n, s.2.1, wl b n q, y.2.2.1, y.2.2.2, ⟨y1, y2, y3, y4, y5, y6, y7⟩⟩
        · show (s.1 ++ [_]).length = _
          rw [List.length_append]; rfl
theorem clR_12 {b : Nat → Nat} {n q : Nat} {s : RTt} {z : RTt × Nat} (h1 : 12 ≤ s.1.length) (h : clR b n s q = .inr z) : False := by
  unfold clR at h
  by_cases h0 : whT b n 0 (.inr q) = 0
  · rw [if_pos h0] at h; cases h
  · rw [if_neg h0, if_pos h1] at h; cases h
/-- the class's rows tell what was read -/
def RwC (I : Nat → Nat → Int32) (l : List Cls) : Prop := I 12 5 = nI l.length ∧ (∀ i, i < (catC l).length → I 13 i = eC ((catC l).getD i (0, 0))) ∧ ∀ i, i < l.length → I 14 i = nI (l.getD i cN).1 ∧ I 15 i = nI (catC (l.take (i + 1))).length
theorem RwC.keep {I I' : Nat → Nat → Int32} {l : List Cls} (h : RwC I l) (h1 : I' 12 5 = I 12 5) (h2 : ∀ i, i < (catC l).length → I' 13 i = I 13 i) (h3 : ∀ i, I' 14 i = I 14 i) (h4 : ∀ i, I' 15 i = I 15 i) : RwC I' l := ⟨h1.trans h.1, fun i hi => (h2 i hi).trans (h.2.1 i hi), fun i hi => ⟨(h3 i).trans (h.2.2 i hi).1, (h4 i).trans (h.2.2 i hi).2⟩⟩
theorem gE_l {a c : List Cls} {i : Nat} (h : i < a.length) : (a ++ c).getD i cN = a.getD i cN := by
  rw [List.getD_eq_getElem?_getD, List.getElem?_append_left h, ← List.getD_eq_getElem?_getD]
theorem gE_r {a c : List Cls} {i : Nat} : (a ++ c).getD (a.length + i) cN = c.getD i cN := by
  rw [List.getD_eq_getElem?_getD, List.getElem?_append_right (by omega), Nat.add_sub_cancel_left, ← List.getD_eq_getElem?_getD]
theorem tk_l {a c : List Cls} {i : Nat} (h : i ≤ a.length) : (a ++ c).take i = a.take i := List.take_append_of_le_length h
theorem tk_a {a : List Cls} {c : Cls} : (a ++ [c]).take (a.length + 1) = a ++ [c] := List.take_of_length_le (by rw [List.length_append]; exact Nat.le_refl _)
def FK (I I' : Nat → Nat → Int32) : Prop := ∀ p k, p ≠ 9 → p ≠ 12 → p ≠ 13 → p ≠ 14 → p ≠ 15 → I' p k = I p k
theorem FK.rfl {I : Nat → Nat → Int32} : FK I I := fun _ _ _ _ _ _ _ => Eq.refl _
theorem FK.trans {I I1 I2 : Nat → Nat → Int32} (h1 : FK I I1) (h2 : FK I1 I2) : FK I I2 := fun p k a b c d e => (h2 p k a b c d e).trans (h1 p k a b c d e)
theorem F9.fk {I I' : Nat → Nat → Int32} (h : F9 I I') : FK I I' := fun p k a _ _ _ _ => h p k a
theorem FC.fk {I I' : Nat → Nat → Int32} (h : FC I I') : FK I I' := fun p k a b c _ _ => h p k a c (fun z => b z.1)
theorem FK.put {q j : Nat} {v : Int32} {I I' : Nat → Nat → Int32} (h : FK I I') (hq : q = 12 ∨ q = 13 ∨ q = 14 ∨ q = 15) : FK I (z_u I' q j v) := fun p k a b c d e => (z_u_no _ _ (by omega)).trans (h p k a b c d e)
theorem FK.tp {n : Nat} {I I' : Nat → Nat → Int32} {b : Nat → Nat} (h : FK I I') (t : TP I b n) : TP I' b n := t.keep (fun k => h 10 k (by omega) (by omega) (by omega) (by omega) (by omega)) (fun k => h 52 k (by omega) (by omega) (by omega) (by omega) (by omega))
/-- a clause more -/
theorem RwC.s {I I1 : Nat → Nat → Int32} {l : List Cls} {k : Nat} {o1 o2 : List It} (h : RwC I l) (ha : CA I I1 (catC l).length o2) (h3 : ∀ i, I1 14 i = I 14 i) (h4 : ∀ i, I1 15 i = I 15 i) : RwC (z_u (z_u (z_u I1 14 l.length (nI k)) 15 l.length (nI ((catC l).length + o2.length))) 12 5 (nI (l.length + 1))) (l ++ [(k, o1, o2)]) := by
  obtain ⟨a1, a2, a3⟩ := h
  refine ⟨?_, fun i hi => ?_, fun i hi => ?_⟩
  · rw [z_u_same, List.length_append]; rfl
  · rw [z_u_p _ _ _ _ (by decide), z_u_p _ _ _ _ (by decide), z_u_p _ _ _ _ (by decide)]
    rw [catC_a] at hi ⊢
    by_cases g : i < (catC l).length
    · rw [getD_l g]; exact (ha.1 i g).trans (a2 i g)
    · obtain ⟨j, rfl⟩ : ∃ j, i = (catC l).length + j := ⟨i - (catC l).length, by omega⟩
      rw [getD_r]
      rw [List.length_append] at hi
      exact ha.2 j (by show j < o2.length; have hi : _ < (catC l).length + o2.length := hi; omega)
  · rw [show z_u (z_u (z_u I1 14 l.length (nI k)) 15 l.length (nI ((catC l).length + o2.length))) 12 5 (nI (l.length + 1)) 14 i = z_u I1 14 l.length (nI k) 14 i from (z_u_p _ _ _ _ (by decide)).trans (z_u_p _ _ _ _ (by decide)),
      show z_u (z_u (z_u I1 14 l.length (nI k)) 15 l.length (nI ((catC l).length + o2.length))) 12 5 (nI (l.length + 1)) 15 i = z_u (z_u I1 14 l.length (nI k)) 15 l.length (nI ((catC l).length + o2.length)) 15 i from z_u_p _ _ _ _ (by decide)]
    by_cases g : i < l.length
    · rw [gE_l g, tk_l (by omega), z_u_k _ _ _ (by omega), z_u_k _ _ _ (by omega), z_u_p _ _ _ _ (by decide)]
      exact ⟨(h3 i).trans (a3 i g).1, (h4 i).trans (a3 i g).2⟩
    · have e : i = l.length := by rw [List.length_append] at hi; have hi : i < l.length + 1 := hi; omega
      subst e
      rw [z_u_same, z_u_same, tk_a, catC_a, List.length_append]
      have := gE_r (a := l) (c := [(k, o1, o2)]) (i := 0)
      rw [Nat.add_zero] at this
      rw [this]
      exact ⟨rfl, rfl⟩
/-- the end of a clause in the class -/
def ClC (I : Nat → Nat → Int32) (b : Nat → Nat) (n : Nat) : Sum Nat (RTt × Nat) → Prop
  | .inl e => CX I b n (.inl e)
  | .inr z => RC I b n (.inr (bk b n z.2)) z.1.2.1 (catC z.1.1).length ∧ RwC I z.1.1
theorem q_clsC {x : Nat × (Nat → Int32)} {d : Nat} {J : Nat → Nat → Int64} {R : Nat → Nat → Option Nat} {G : zG} {b : Nat → Nat} {n : Nat} {Q : Option Value → zM → Prop} {q : Nat} {s : RTt} {I : Nat → Nat → Int32} {mo ii : Int32} {kk : Value} (hR : Rs R) (hS : Sh G) (hT : TP I b n) (hq : q ≤ n) (ho : rsO s) (hl : s.2.2 ≤ q) (hc : RC I b n (.inr q) s.2.1 (catC s.1).length) (hw : RwC I s.1) (hk : ∀ I' kk', FK I I' → ClC I' b n (clR b n s q) → zOk x (d + 29) 24 127 [.ref 12, .int mo, .int ii, kk'] [] (I', J, R, G) Q) : zOk x (d + 29) 24 37 [.ref 12, .int mo, .int ii, kk] [] (I, J, R, G) Q := by
  obtain ⟨o1, o2, o3, o4, o5⟩ := ho
  have h400 := hT.1
  have w3 := wh0_le (b := b) (n := n) (q := q)
  rw [clR] at hk
  by_cases h0 : whT b n 0 (.inr q) = 0
  · rw [if_pos h0] at hk
    refine k_aload f24_37 rfl ?_
    refine k_getr (q := 9) f24_38 hS.o12 rfl hR.r12_0 ?_
    refine k_ldc f24_41 ?_
    refine e_v (as := [.retAddr 0]) (rest := []) f24_43 hS.o9 rfl rfl rfl ((show zRn x (d + 28) 54 [.ref 9, .retAddr 0] (I, J, R, G) (some (.int 0)) (I, J, R, G) from by have h := s_which (x := x) (d := d + 24) (J := J) (k := 0) hR hS hT (by omega) hc.1; rw [h0] at h; exact h)) ?_
    refine k_istore (L' := [.ref 12, .int (mo), .int (ii), .int (0)]) f24_46 rfl rfl ?_
    refine k_iload f24_47 rfl ?_
    refine k_if_ne f24_48 (fun h_ => absurd (by decide) h_) (fun _ => ?_)
    refine k_aload f24_51 rfl ?_
    refine k_getr (q := 9) f24_52 hS.o12 rfl hR.r12_0 ?_
    refine k_iconst (v := 0) f24_55 rfl ?_
    refine k_callv (as := [.int (0)]) (rest := []) f24_56 hS.o9 rfl rfl rfl rfl (q_fail (b := b) (n := n) (w := 0) hS hT.1 (by omega) hc.1) ?_
    rintro _ _ ⟨rfl, I1, rfl, ht1, hf1⟩
    refine k_goto f24_59 ?_
    exact hk I1 _ hf1.fk ht1
  · rw [if_neg h0] at hk
    have nz : ¬ nI (whT b n 0 (.inr q)) = 0 := nI_ne0 (by omega) (by omega)
    have e5 := hw.1
    by_cases h1 : 12 ≤ s.1.length
    · rw [if_pos h1] at hk
      refine k_aload f24_37 rfl ?_
      refine k_getr (q := 9) f24_38 hS.o12 rfl hR.r12_0 ?_
      refine k_ldc f24_41 ?_
      refine e_v (as := [.retAddr 0]) (rest := []) f24_43 hS.o9 rfl rfl rfl (s_which (d := d + 24) (k := 0) hR hS hT (by omega) hc.1) ?_
      refine k_istore (L' := [.ref 12, .int (mo), .int (ii), .int (nI (whT b n 0 (.inr q)))]) f24_46 rfl rfl ?_
      refine k_iload f24_47 rfl ?_
      refine k_if_ne f24_48 (fun _ => ?_) (fun h_ => absurd (nz) h_)
      refine k_aload f24_62 rfl ?_
      refine k_gI (w := nI s.1.length) f24_63 hS.o12 rfl e5 ?_
      refine k_iconst (v := 12) f24_66 rfl ?_
      refine k_ic_lt f24_68 (fun h_ => absurd h_ ((nI_nlt (b := 12) h1 (by omega)))) (fun _ => ?_)
      refine k_aload f24_71 rfl ?_
      refine k_getr (q := 9) f24_72 hS.o12 rfl hR.r12_0 ?_
      refine k_iconst (v := 4) f24_75 rfl ?_
      refine k_callv (as := [.int (4)]) (rest := []) f24_76 hS.o9 rfl rfl rfl rfl (q_fail (b := b) (n := n) (w := 4) hS hT.1 (by omega) hc.1) ?_
      rintro _ _ ⟨rfl, I1, rfl, ht1, hf1⟩
      refine k_goto f24_79 ?_
      exact hk I1 _ hf1.fk ht1
    · rw [if_neg h1] at hk
      have hL := wh0_isL h0
      have w1 := wl_lt hL
      have w2 := (wl_le (b := b) hq).2
      cases ht : tsF b n 11 10 s.2.1 (wl b n q) with
      | inl e =>
        rw [bdS_l ht] at hk
        refine k_aload f24_37 rfl ?_
        refine k_getr (q := 9) f24_38 hS.o12 rfl hR.r12_0 ?_
        refine k_ldc f24_41 ?_
        refine e_v (as := [.retAddr 0]) (rest := []) f24_43 hS.o9 rfl rfl rfl (s_which (d := d + 24) (k := 0) hR hS hT (by omega) hc.1) ?_
        refine k_istore (L' := [.ref 12, .int (mo), .int (ii), .int (nI (whT b n 0 (.inr q)))]) f24_46 rfl rfl ?_
        refine k_iload f24_47 rfl ?_
        refine k_if_ne f24_48 (fun _ => ?_) (fun h_ => absurd (nz) h_)
        refine k_aload f24_62 rfl ?_
        refine k_gI (w := nI s.1.length) f24_63 hS.o12 rfl e5 ?_
        refine k_iconst (v := 12) f24_66 rfl ?_
        refine k_ic_lt f24_68 (fun _ => ?_) (fun h_ => absurd ((nI_lt (b := 12) (by omega) (by omega))) h_)
        refine k_aload f24_82 rfl ?_
        refine k_getr (q := 9) f24_83 hS.o12 rfl hR.r12_0 ?_
        refine k_callv (as := []) (rest := []) f24_86 hS.o9 rfl rfl rfl rfl (q_next hR hS hT hc.1) ?_
        rintro _ _ ⟨rfl, I1, rfl, ht1, hf1⟩
        have hT1 := hf1.tp hT
        have hc1 := hc.f9 hf1 ht1
        rw [nx_wd hL] at hc1
        refine k_aload f24_89 rfl ?_
        refine k_iconst (v := 0) f24_90 rfl ?_
        refine k_callv (as := [.int (0)]) (rest := []) f24_91 hS.o12 rfl rfl rfl rfl (q_testC (d := d) hR hS 11 10 0 s.2.1 (wl b n q) _ I1 (by omega) (by omega) w2 (by omega) hT1 hc1) ?_
        rintro _ _ ⟨rfl, I2, rfl, hf2, hv2⟩
        rw [ht] at hv2
        obtain ⟨m2, s2, hc2⟩ := hv2
        have k5 : I2 12 5 = nI s.1.length := (hf2 12 5 (by omega) (by omega) (by omega)).trans ((hf1 12 5 (by omega)).trans e5)
        refine k_aload f24_94 rfl ?_
        refine k_getr (q := 14) f24_95 hS.o12 rfl hR.r12_3 ?_
        refine k_aload f24_98 rfl ?_
        refine k_gI (w := nI s.1.length) f24_99 hS.o12 rfl k5 ?_
        refine k_iload f24_102 rfl ?_
        refine k_is (k := s.1.length) f24_103 hS.a14 rfl (by omega) (by decide) ?_
        refine k_aload f24_104 rfl ?_
        refine k_getr (q := 15) f24_105 hS.o12 rfl hR.r12_4 ?_
        refine k_aload f24_108 rfl ?_
        refine k_gI (w := nI s.1.length) f24_109 hS.o12 rfl (Eq.trans (z_u_p _ _ _ _ (by decide)) k5) ?_
        refine k_aload f24_112 rfl ?_
        refine k_gI (w := nI s2) f24_113 hS.o12 rfl (Eq.trans (z_u_p _ _ _ _ (by decide)) hc2.2.1) ?_
        refine k_is (k := s.1.length) f24_116 hS.a15 rfl (by omega) (by decide) ?_
        refine k_aload f24_117 rfl ?_
        refine k_dup f24_118 ?_
        refine k_gI (w := nI s.1.length) f24_119 hS.o12 rfl (Eq.trans (z_u_p _ _ _ _ (by decide)) (Eq.trans (z_u_p _ _ _ _ (by decide)) k5)) ?_
        refine k_iconst (v := 1) f24_122 rfl ?_
        refine k_iadd f24_123 ?_
        rw [nI_1 s.1.length]
        refine k_putI f24_124 hS.o12 rfl ?_
        exact hk _ _ (((hf1.fk.trans hf2.fk).put (by omega)).put (by omega) |>.put (by omega)) (((hc2.1.put (by decide)).put (by decide)).put (by decide))
      | inr z =>
        rw [bdS_r ht] at hk
        have hB := (ts_okQ (b := b) (n := n) 11 10 (by omega) s.2.1 (wl b n q) o2 w2).1 z ht
        have z3 := hB.2.2.1
        have hb := bk_bk (b := b) z3
        refine k_aload f24_37 rfl ?_
        refine k_getr (q := 9) f24_38 hS.o12 rfl hR.r12_0 ?_
        refine k_ldc f24_41 ?_
        refine e_v (as := [.retAddr 0]) (rest := []) f24_43 hS.o9 rfl rfl rfl (s_which (d := d + 24) (k := 0) hR hS hT (by omega) hc.1) ?_
        refine k_istore (L' := [.ref 12, .int (mo), .int (ii), .int (nI (whT b n 0 (.inr q)))]) f24_46 rfl rfl ?_
        refine k_iload f24_47 rfl ?_
        refine k_if_ne f24_48 (fun _ => ?_) (fun h_ => absurd (nz) h_)
        refine k_aload f24_62 rfl ?_
        refine k_gI (w := nI s.1.length) f24_63 hS.o12 rfl e5 ?_
        refine k_iconst (v := 12) f24_66 rfl ?_
        refine k_ic_lt f24_68 (fun _ => ?_) (fun h_ => absurd ((nI_lt (b := 12) (by omega) (by omega))) h_)
        refine k_aload f24_82 rfl ?_
        refine k_getr (q := 9) f24_83 hS.o12 rfl hR.r12_0 ?_
        refine k_callv (as := []) (rest := []) f24_86 hS.o9 rfl rfl rfl rfl (q_next hR hS hT hc.1) ?_
        rintro _ _ ⟨rfl, I1, rfl, ht1, hf1⟩
        have hT1 := hf1.tp hT
        have hc1 := hc.f9 hf1 ht1
        rw [nx_wd hL] at hc1
        refine k_aload f24_89 rfl ?_
        refine k_iconst (v := 0) f24_90 rfl ?_
        refine k_callv (as := [.int (0)]) (rest := []) f24_91 hS.o12 rfl rfl rfl rfl (q_testC (d := d) hR hS 11 10 0 s.2.1 (wl b n q) _ I1 (by omega) (by omega) w2 (by omega) hT1 hc1) ?_
        rintro _ _ ⟨rfl, I2, rfl, hf2, hv2⟩
        rw [ht] at hv2
        obtain ⟨hc2, ha2⟩ := hv2
        have k5 : I2 12 5 = nI s.1.length := (hf2 12 5 (by omega) (by omega) (by omega)).trans ((hf1 12 5 (by omega)).trans e5)
        refine k_aload f24_94 rfl ?_
        refine k_getr (q := 14) f24_95 hS.o12 rfl hR.r12_3 ?_
        refine k_aload f24_98 rfl ?_
        refine k_gI (w := nI s.1.length) f24_99 hS.o12 rfl k5 ?_
        refine k_iload f24_102 rfl ?_
        refine k_is (k := s.1.length) f24_103 hS.a14 rfl (by omega) (by decide) ?_
        refine k_aload f24_104 rfl ?_
        refine k_getr (q := 15) f24_105 hS.o12 rfl hR.r12_4 ?_
        refine k_aload f24_108 rfl ?_
        refine k_gI (w := nI s.1.length) f24_109 hS.o12 rfl (Eq.trans (z_u_p _ _ _ _ (by decide)) k5) ?_
        refine k_aload f24_112 rfl ?_
        refine k_gI (w := nI ((catC s.1).length + z.2.1.length)) f24_113 hS.o12 rfl (Eq.trans (z_u_p _ _ _ _ (by decide)) hc2.2.1) ?_
        refine k_is (k := s.1.length) f24_116 hS.a15 rfl (by omega) (by decide) ?_
        refine k_aload f24_117 rfl ?_
        refine k_dup f24_118 ?_
        refine k_gI (w := nI s.1.length) f24_119 hS.o12 rfl (Eq.trans (z_u_p _ _ _ _ (by decide)) (Eq.trans (z_u_p _ _ _ _ (by decide)) k5)) ?_
        refine k_iconst (v := 1) f24_122 rfl ?_
        refine k_iadd f24_123 ?_
        rw [nI_1 s.1.length]
        refine k_putI f24_124 hS.o12 rfl ?_
        have cc : ∀ j, z_u (z_u (z_u I2 14 s.1.length (nI (whT b n 0 (.inr q)))) 15 s.1.length (nI ((catC s.1).length + z.2.1.length))) 12 5 (nI (s.1.length + 1)) 12 j = if j = 5 then nI (s.1.length + 1) else I2 12 j := fun j => by
          by_cases hj : j = 5
          · subst hj; rw [z_u_same, if_pos rfl]
          · rw [z_u_k _ _ _ hj, z_u_p _ _ _ _ (by decide), z_u_p _ _ _ _ (by decide), if_neg hj]
        refine hk _ _ (((hf1.fk.trans hf2.fk).put (by omega)).put (by omega) |>.put (by omega)) ⟨⟨?_, ?_, ?_, ?_, hc2.2.2.2.2⟩, ?_⟩
        · show CX _ b n (.inr (bk b n (bk b n z.2.2.2)))
          rw [hb]
          exact ((hc2.1.put (by decide)).put (by decide)).put (by decide)
        · rw [cc 2]
          show I2 12 2 = nI (catC (s.1 ++ [_])).length
          rw [catC_a, List.length_append]
          exact hc2.2.1
        · show (catC (s.1 ++ [_])).length ≤ 400
          rw [catC_a, List.length_append]
          exact hc2.2.2.1
        · rw [cc 6]
          exact hc2.2.2.2.1
        · exact RwC.s hw (ha2.l (fun i => hf1 13 i (by omega))) (fun i => (hf2 14 i (by omega) (by omega) (by omega)).trans (hf1 14 i (by omega))) (fun i => (hf2 15 i (by omega) (by omega) (by omega)).trans (hf1 15 i (by omega)))
def RdC (v : Option Value) (I0 I : Nat → Nat → Int32) (R0 R : Nat → Nat → Option Nat) (G0 G : zG) : Sum Nat RTt → Prop
  | .inl e => v = some .null ∧ I 9 7 = nI e ∧ R = R0 ∧ G = G0
  | .inr s => v = some (.ref (G0.2.2.1 + 1)) ∧ Gk G0 G ∧ G.2.2.1 = G0.2.2.1 + 4 ∧ G.2.2.2 ≤ G0.2.2.2 + 500 ∧ (∀ p k, p < G0.2.2.1 → R p k = R0 p k) ∧ RuS R G (G0.2.2.1 + 1) G0.2.2.1 (G0.2.2.1 + 2) (G0.2.2.1 + 3) (catC s.1).length s.1.length ∧ (∀ i, i < (catC s.1).length → I G0.2.2.1 i = eC ((catC s.1).getD i (0, 0))) ∧ ∀ i, i < s.1.length → I (G0.2.2.1 + 2) i = nI (s.1.getD i cN).1 ∧ I (G0.2.2.1 + 3) i = nI (catC (s.1.take (i + 1))).length
theorem lp_rr {x : Nat × (Nat → Int32)} {d : Nat} {J : Nat → Nat → Int64} {R : Nat → Nat → Option Nat} {G : zG} {b : Nat → Nat} {n : Nat} {I0 : Nat → Nat → Int32} (hR : Rs R) (hS : Sh G) (hT0 : TP I0 b n) (hr : G.2.2.1 < 400000 ∧ G.2.2.2 < 6000000) : ∀ (f : Nat) (s : RTt) (q i : Nat) (I : Nat → Nat → Int32) (mo : Int32) (kk : Value), s.1.length + f = 12 → i + f = 12 → q ≤ n → rsO s → s.2.2 ≤ q → FK I0 I → ClC I b n (clR b n s q) → zOk x (d + 29) 24 127 [.ref 12, .int mo, .int (nI i), kk] [] (I, J, R, G) (fun v mm => ∃ I' J' R' G', mm = (I', J', R', G') ∧ (∀ p k, p < G.2.2.1 → p ≠ 9 → p ≠ 12 → p ≠ 13 → p ≠ 14 → p ≠ 15 → I' p k = I0 p k) ∧ RdC v I0 I' R R' G G' (rdG (clR b n) b n (f + 1) s q)) := by
  have h400 := hT0.1
  intro f
  induction f with
  | zero =>
    intro s q i I mo kk hln hi hq ho hl hF hC
    have hT := hF.tp hT0
    rw [rdG_s]
    cases hc : clR b n s q with
    | inl e =>
      rw [hc] at hC
      have ht : CX I b n (.inl e) := hC
      rw [bdS_l rfl]
      refine k_aload f24_127 rfl ?_
      refine k_getr (q := 9) f24_128 hS.o12 rfl hR.r12_0 ?_
      refine k_iconst (v := 59) f24_131 rfl ?_
      refine e_v (as := [.int (59)]) (rest := []) f24_133 hS.o9 rfl rfl rfl (s_isSign (c := 59) hS ht (by omega) hT) ?_
      refine k_istore (L' := [.ref 12, .int (bI (siT b n 59 (.inl e) = true)), .int (nI i), kk]) f24_136 rfl rfl ?_
      refine k_iload f24_137 rfl ?_
      refine k_beq f24_138 (fun _ => ?_) (fun h_ => (absurd h_ ((fun z => by cases z))))
      refine k_iinc (w := nI (i + 1)) (L' := [.ref 12, .int (bI (siT b n 59 (.inl e) = true)), .int (nI (i + 1)), kk]) f24_148 rfl (nI_1 i) rfl rfl ?_
      refine k_goto f24_151 ?_
      refine k_iload f24_26 rfl ?_
      refine k_iconst (v := 400) f24_27 rfl ?_
      refine k_ic_ge f24_30 (fun h_ => absurd h_ (nI_ge (b := 400) (by omega) (by omega))) (fun _ => ?_)
      refine k_iload f24_33 rfl ?_
      refine k_beq f24_34 (fun _ => ?_) (fun h_ => (absurd h_ ((fun z => by cases z))))
      refine zOk.imp (fin_brk (d := d + 28) hR hS hT ht) ?_
      rintro v _ ⟨rfl, I', rfl, hf, h⟩
      exact ⟨I', J, R, G, rfl, fun p k _ a1 a2 a3 a4 a5 => (hf p k a1).trans (hF p k a1 a2 a3 a4 a5), rfl, h, rfl, rfl⟩
    | inr z =>
      exact absurd (clR_12 (by omega) hc) id
  | succ f ih =>
    intro s q i I mo kk hln hi hq ho hl hF hC
    have hT := hF.tp hT0
    rw [rdG_s]
    cases hc : clR b n s q with
    | inl e =>
      rw [hc] at hC
      have ht : CX I b n (.inl e) := hC
      rw [bdS_l rfl]
      refine k_aload f24_127 rfl ?_
      refine k_getr (q := 9) f24_128 hS.o12 rfl hR.r12_0 ?_
      refine k_iconst (v := 59) f24_131 rfl ?_
      refine e_v (as := [.int (59)]) (rest := []) f24_133 hS.o9 rfl rfl rfl (s_isSign (c := 59) hS ht (by omega) hT) ?_
      refine k_istore (L' := [.ref 12, .int (bI (siT b n 59 (.inl e) = true)), .int (nI i), kk]) f24_136 rfl rfl ?_
      refine k_iload f24_137 rfl ?_
      refine k_beq f24_138 (fun _ => ?_) (fun h_ => (absurd h_ ((fun z => by cases z))))
      refine k_iinc (w := nI (i + 1)) (L' := [.ref 12, .int (bI (siT b n 59 (.inl e) = true)), .int (nI (i + 1)), kk]) f24_148 rfl (nI_1 i) rfl rfl ?_
      refine k_goto f24_151 ?_
      refine k_iload f24_26 rfl ?_
      refine k_iconst (v := 400) f24_27 rfl ?_
      refine k_ic_ge f24_30 (fun h_ => absurd h_ (nI_ge (b := 400) (by omega) (by omega))) (fun _ => ?_)
      refine k_iload f24_33 rfl ?_
      refine k_beq f24_34 (fun _ => ?_) (fun h_ => (absurd h_ ((fun z => by cases z))))
      refine zOk.imp (fin_brk (d := d + 28) hR hS hT ht) ?_
      rintro v _ ⟨rfl, I', rfl, hf, h⟩
      exact ⟨I', J, R, G, rfl, fun p k _ a1 a2 a3 a4 a5 => (hf p k a1).trans (hF p k a1 a2 a3 a4 a5), rfl, h, rfl, rfl⟩
    | inr z =>
      rw [hc] at hC
      obtain ⟨hc1, hw⟩ := hC
      have ht := hc1.1
      obtain ⟨k1, k2, k3, k4⟩ := clR_ok hq ho hl hc
      have q2 := bk_le (b := b) k3
      rw [bdS_r rfl]
      by_cases hs : siT b n 59 (.inr (bk b n z.2)) = true
      · rw [if_pos hs]
        refine k_aload f24_127 rfl ?_
        refine k_getr (q := 9) f24_128 hS.o12 rfl hR.r12_0 ?_
        refine k_iconst (v := 59) f24_131 rfl ?_
        refine e_v (as := [.int (59)]) (rest := []) f24_133 hS.o9 rfl rfl rfl (s_isSign (c := 59) hS ht (by omega) hT) ?_
        refine k_istore (L' := [.ref 12, .int (bI (siT b n 59 (.inr (bk b n z.2)) = true)), .int (nI i), kk]) f24_136 rfl rfl ?_
        refine k_iload f24_137 rfl ?_
        refine k_beq f24_138 (fun h_ => absurd (hs) h_) (fun _ => ?_)
        refine k_aload f24_141 rfl ?_
        refine k_getr (q := 9) f24_142 hS.o12 rfl hR.r12_0 ?_
        refine k_callv (as := []) (rest := []) f24_145 hS.o9 rfl rfl rfl rfl (q_next hR hS hT ht) ?_
        rintro _ _ ⟨rfl, I1, rfl, ht1, hf1⟩
        have hT1 := hf1.tp hT
        have hc2 := hc1.f9 hf1 ht1
        have hw1 : RwC I1 z.1.1 := hw.keep (hf1 12 5 (by omega)) (fun i _ => hf1 13 i (by omega)) (fun i => hf1 14 i (by omega)) (fun i => hf1 15 i (by omega))
        refine k_iinc (w := nI (i + 1)) (L' := [.ref 12, .int (bI (siT b n 59 (.inr (bk b n z.2)) = true)), .int (nI (i + 1)), kk]) f24_148 rfl (nI_1 i) rfl rfl ?_
        refine k_goto f24_151 ?_
        refine k_iload f24_26 rfl ?_
        refine k_iconst (v := 400) f24_27 rfl ?_
        refine k_ic_ge f24_30 (fun h_ => absurd h_ (nI_ge (b := 400) (by omega) (by omega))) (fun _ => ?_)
        refine k_iload f24_33 rfl ?_
        refine k_beq f24_34 (fun h_ => absurd (hs) h_) (fun _ => ?_)
        have e2 := ed_le (b := b) q2.2
        have e3 := bk_le (b := b) e2.2
        refine q_clsC (d := d) (q := bk b n (ed b n (bk b n z.2))) (s := z.1) hR hS hT1 e3.2 k1 (by omega) hc2 hw1 fun I' kk' hf h => ?_
        exact ih z.1 _ (i + 1) I' _ kk' (by omega) (by omega) e3.2 k1 (by omega) ((hF.trans hf1.fk).trans hf) h
      · rw [if_neg hs]
        by_cases hE : enT b n (.inr (bk b n z.2)) = true
        · rw [if_pos hE]
          refine k_aload f24_127 rfl ?_
          refine k_getr (q := 9) f24_128 hS.o12 rfl hR.r12_0 ?_
          refine k_iconst (v := 59) f24_131 rfl ?_
          refine e_v (as := [.int (59)]) (rest := []) f24_133 hS.o9 rfl rfl rfl (s_isSign (c := 59) hS ht (by omega) hT) ?_
          refine k_istore (L' := [.ref 12, .int (bI (siT b n 59 (.inr (bk b n z.2)) = true)), .int (nI i), kk]) f24_136 rfl rfl ?_
          refine k_iload f24_137 rfl ?_
          refine k_beq f24_138 (fun _ => ?_) (fun h_ => (absurd h_ (hs)))
          refine k_iinc (w := nI (i + 1)) (L' := [.ref 12, .int (bI (siT b n 59 (.inr (bk b n z.2)) = true)), .int (nI (i + 1)), kk]) f24_148 rfl (nI_1 i) rfl rfl ?_
          refine k_goto f24_151 ?_
          refine k_iload f24_26 rfl ?_
          refine k_iconst (v := 400) f24_27 rfl ?_
          refine k_ic_ge f24_30 (fun h_ => absurd h_ (nI_ge (b := 400) (by omega) (by omega))) (fun _ => ?_)
          refine k_iload f24_33 rfl ?_
          refine k_beq f24_34 (fun _ => ?_) (fun h_ => (absurd h_ (hs)))
          refine zOk.imp (fin_good (d := d + 28) hR hS hT ht hE hc1.2.1 hc1.2.2.1 hw.1 k1.1 hr) ?_
          rintro v _ ⟨rfl, I', J', R', G', rfl, f1, f2, f3, f4, f5, f6, f7, f8, f9⟩
          exact ⟨I', J', R', G', rfl, fun p k h a1 a2 a3 a4 a5 => (f1 p k h).trans (hF p k a1 a2 a3 a4 a5), rfl, f3, f4, f5, f2, f6, fun i h => (f7 i h).trans (hw.2.1 i h), fun i h => ⟨(f8 i h).trans (hw.2.2 i h).1, (f9 i h).trans (hw.2.2 i h).2⟩⟩
        · rw [if_neg hE]
          refine k_aload f24_127 rfl ?_
          refine k_getr (q := 9) f24_128 hS.o12 rfl hR.r12_0 ?_
          refine k_iconst (v := 59) f24_131 rfl ?_
          refine e_v (as := [.int (59)]) (rest := []) f24_133 hS.o9 rfl rfl rfl (s_isSign (c := 59) hS ht (by omega) hT) ?_
          refine k_istore (L' := [.ref 12, .int (bI (siT b n 59 (.inr (bk b n z.2)) = true)), .int (nI i), kk]) f24_136 rfl rfl ?_
          refine k_iload f24_137 rfl ?_
          refine k_beq f24_138 (fun _ => ?_) (fun h_ => (absurd h_ (hs)))
          refine k_iinc (w := nI (i + 1)) (L' := [.ref 12, .int (bI (siT b n 59 (.inr (bk b n z.2)) = true)), .int (nI (i + 1)), kk]) f24_148 rfl (nI_1 i) rfl rfl ?_
          refine k_goto f24_151 ?_
          refine k_iload f24_26 rfl ?_
          refine k_iconst (v := 400) f24_27 rfl ?_
          refine k_ic_ge f24_30 (fun h_ => absurd h_ (nI_ge (b := 400) (by omega) (by omega))) (fun _ => ?_)
          refine k_iload f24_33 rfl ?_
          refine k_beq f24_34 (fun _ => ?_) (fun h_ => (absurd h_ (hs)))
          refine zOk.imp (fin_bad (d := d + 28) hR hS hT ht hE) ?_
          rintro v _ ⟨rfl, I', rfl, hf, h⟩
          exact ⟨I', J, R, G, rfl, fun p k _ a1 a2 a3 a4 a5 => (hf p k a1).trans (hF p k a1 a2 a3 a4 a5), rfl, h, rfl, rfl⟩
def rs0 : RTt := ([], 0, 0)
theorem rs0_ok : rsO rs0 := ⟨by decide, by decide, by decide, by decide, fun c hc => absurd hc (List.not_mem_nil)⟩
theorem q_readR {x : Nat × (Nat → Int32)} {d : Nat} {J : Nat → Nat → Int64} {R : Nat → Nat → Option Nat} {G : zG} {b : Nat → Nat} {n : Nat} {I : Nat → Nat → Int32} (hR : Rs R) (hS : Sh G) (hT : TP I b n) (hn : I 9 1 = nI n) (hr : G.2.2.1 < 400000 ∧ G.2.2.2 < 6000000) : zOk x (d + 29) 24 0 [.ref 12, zU, zU, zU] [] (I, J, R, G) (fun v mm => ∃ I' J' R' G', mm = (I', J', R', G') ∧ (∀ p k, p < G.2.2.1 → p ≠ 9 → p ≠ 12 → p ≠ 13 → p ≠ 14 → p ≠ 15 → I' p k = I p k) ∧ RdC v I I' R R' G G' (rdG (clR b n) b n 13 rs0 (bk b n 0))) := by
  refine k_aload f24_0 rfl ?_
  refine k_iconst (v := 0) f24_1 rfl ?_
  refine k_putI f24_2 hS.o12 rfl ?_
  refine k_aload f24_5 rfl ?_
  refine k_iconst (v := 0) f24_6 rfl ?_
  refine k_putI f24_7 hS.o12 rfl ?_
  refine k_aload f24_10 rfl ?_
  refine k_iconst (v := 0) f24_11 rfl ?_
  refine k_putI f24_12 hS.o12 rfl ?_
  refine k_aload f24_15 rfl ?_
  refine k_getr (q := 9) f24_16 hS.o12 rfl hR.r12_0 ?_
  obtain ⟨I1, eI1⟩ : ∃ I1, I1 = z_u (z_u (z_u I 12 2 0) 12 5 0) 12 6 0 := ⟨_, rfl⟩
  rw [← eI1]
  have f1 : FK I I1 := by rw [eI1]; exact ((FK.rfl.put (by omega)).put (by omega)).put (by omega)
  have hT1 := f1.tp hT
  have n1 : I1 9 1 = nI n := by rw [eI1, z_u_p _ _ _ _ (by decide), z_u_p _ _ _ _ (by decide), z_u_p _ _ _ _ (by decide)]; exact hn
  have a2 : I1 12 2 = 0 := by rw [eI1, z_u_k _ _ _ (by decide), z_u_k _ _ _ (by decide), z_u_same]
  have a5 : I1 12 5 = 0 := by rw [eI1, z_u_k _ _ _ (by decide), z_u_same]
  have a6 : I1 12 6 = 0 := by rw [eI1, z_u_same]
  refine k_callv (as := []) (rest := []) f24_19 hS.o9 rfl rfl rfl rfl (q_begin hR hS hT1 n1) ?_
  rintro _ _ ⟨rfl, I2, rfl, ht2, hf2⟩
  have hT2 := hf2.tp hT1
  have hc2 : RC I2 b n (.inr (bk b n 0)) rs0.2.1 (catC rs0.1).length := ⟨ht2, (hf2 12 2 (by omega)).trans a2, by decide, (hf2 12 6 (by omega)).trans a6, by decide⟩
  have hw2 : RwC I2 rs0.1 := ⟨(hf2 12 5 (by omega)).trans a5, fun i hi => absurd hi (Nat.not_lt_zero _), fun i hi => absurd hi (Nat.not_lt_zero _)⟩
  refine k_iconst (v := 1) f24_22 rfl ?_
  refine k_istore (L' := [.ref 12, .int (1), zU, zU]) f24_23 rfl rfl ?_
  refine k_iconst (v := 0) f24_24 rfl ?_
  refine k_istore (L' := [.ref 12, .int (1), .int (0), zU]) f24_25 rfl rfl ?_
  refine k_iload f24_26 rfl ?_
  refine k_iconst (v := 400) f24_27 rfl ?_
  refine k_ic_ge f24_30 (fun h_ => absurd h_ (by decide)) (fun _ => ?_)
  refine k_iload f24_33 rfl ?_
  refine k_if_eq f24_34 (fun h_ => absurd h_ (by decide)) (fun _ => ?_)
  refine q_clsC (d := d) (q := bk b n 0) (s := rs0) hR hS hT2 (bk_le (by omega)).2 rs0_ok (Nat.zero_le _) hc2 hw2 fun I3 kk hf3 h3 => ?_
  refine zOk.imp (lp_rr (d := d) (I0 := I3) hR hS (hf3.tp hT2) hr 12 rs0 (bk b n 0) 0 I3 _ kk rfl rfl (bk_le (by omega)).2 rs0_ok (Nat.zero_le _) FK.rfl h3) ?_
  rintro v _ ⟨I', J', R', G', rfl, hf, h⟩
  refine ⟨I', J', R', G', rfl, fun p k h a1 a2 a3 a4 a5 => (hf p k h a1 a2 a3 a4 a5).trans ((hf3 p k a1 a2 a3 a4 a5).trans ((hf2 p k a1).trans (f1 p k a1 a2 a3 a4 a5))), ?_⟩
  cases hz : rdG (clR b n) b n 13 rs0 (bk b n 0) with
  | inl e => rw [hz] at h; exact h
  | inr s => rw [hz] at h; exact h
