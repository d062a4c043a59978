/-! WHAT LAW IS BROKEN, as the reference tells it. -/
theorem or_lt {a b : Nat} (ha : a < 1024) (hb : b < 1024) : a ||| b < 1024 := Nat.or_lt_two_pow (n := 10) ha hb
theorem sh_p {v : Int32} {b : Nat} (h : Rg v b) (hb : b ≤ 10) : (1 : Int32) <<< (v &&& 31) = nI (2 ^ cl v) ∧ 2 ^ cl v < 1024 ∧ cl v < 10 := by
  have := h.2
  refine ⟨?_, Nat.lt_of_lt_of_le (Nat.pow_lt_pow_right (by omega) (show cl v < 10 by omega)) (Nat.le_refl _), by omega⟩
  have e := sh_1 (cl v) (by omega)
  rw [← h.1] at e
  exact e
theorem or_bit {a b q : Nat} : (a ||| 2 ^ b).testBit q = true ↔ a.testBit q = true ∨ b = q := by
  rw [Nat.testBit_or, Nat.testBit_two_pow]
  simp
theorem rg_eq {v w : Int32} {a b : Nat} (h : Rg v a) (g : Rg w b) (e : cl v = cl w) : v = w := by rw [h.1, g.1, e]
theorem met_eq {s : Nat → Int32} {p : Int32} : ∀ n, (∀ m, m < n → Rg (s (56 + 3 * m + 1)) 10 ∧ Rg (s (56 + 3 * m + 2)) 10) → ∃ k, k < 1024 ∧ acc (fM s p) n = nI k ∧ ∀ m, m < n → s (56 + 3 * m) = s 3 → s (56 + 3 * m + 1) ≠ s (56 + 3 * m + 2) → (s (56 + 3 * m + 1) = p → k.testBit (cl (s (56 + 3 * m + 2))) = true) ∧ (s (56 + 3 * m + 2) = p → k.testBit (cl (s (56 + 3 * m + 1))) = true) := by
  intro n
  induction n with
  | zero => intro _; exact ⟨0, by decide, rfl, fun m h => absurd h (Nat.not_lt_zero _)⟩
  | succ n ih =>
    intro hm
    obtain ⟨k, k1, k2, k3⟩ := ih fun m h => hm m (by omega)
    obtain ⟨h1, h2⟩ := hm n (by omega)
    rw [acc_s, fM, k2]
    have a1 := sh_p h1 (Nat.le_refl _)
    have a2 := sh_p h2 (Nat.le_refl _)
    have old : ∀ b m, m < n → s (56 + 3 * m) = s 3 → s (56 + 3 * m + 1) ≠ s (56 + 3 * m + 2) → (s (56 + 3 * m + 1) = p → (k ||| 2 ^ b).testBit (cl (s (56 + 3 * m + 2))) = true) ∧ (s (56 + 3 * m + 2) = p → (k ||| 2 ^ b).testBit (cl (s (56 + 3 * m + 1))) = true) :=
      fun b m h e ne => ⟨fun q => or_bit.mpr (Or.inl ((k3 m h e ne).1 q)), fun q => or_bit.mpr (Or.inl ((k3 m h e ne).2 q))⟩
    by_cases g0 : s (56 + 3 * n) = s 3
    · rw [if_pos g0]
      by_cases g1 : s (56 + 3 * n + 1) = p
      · rw [if_pos g1, a2.1, nI_or]
        refine ⟨_, or_lt k1 a2.2.1, rfl, fun m h e ne => ?_⟩
        by_cases q : m = n
        · subst q
          exact ⟨fun _ => or_bit.mpr (Or.inr rfl), fun f => absurd (g1.trans f.symm) ne⟩
        · exact old _ m (by omega) e ne
      · rw [if_neg g1]
        by_cases g2 : s (56 + 3 * n + 2) = p
        · rw [if_pos g2, a1.1, nI_or]
          refine ⟨_, or_lt k1 a1.2.1, rfl, fun m h e ne => ?_⟩
          by_cases q : m = n
          · subst q
            exact ⟨fun f => absurd f g1, fun _ => or_bit.mpr (Or.inr rfl)⟩
          · exact old _ m (by omega) e ne
        · rw [if_neg g2]
          refine ⟨k, k1, rfl, fun m h e ne => ?_⟩
          by_cases q : m = n
          · subst q
            exact ⟨fun f => absurd f g1, fun f => absurd f g2⟩
          · exact k3 m (by omega) e ne
    · rw [if_neg g0]
      refine ⟨k, k1, rfl, fun m h e ne => ?_⟩
      by_cases q : m = n
      · subst q
        exact absurd e g0
      · exact k3 m (by omega) e ne
theorem bP1 {x : Nat × (Nat → Int32)} {d : Nat} {I : Nat → Nat → Int32} {J : Nat → Nat → Int64} {R : Nat → Nat → Option Nat} {G : zG} {n c p : Nat} {s : Nat → Int32} {f : Int32} (hR : Rs R) (hS : Sh G) (hs : I 62 = s) (hn : s 1 = nI n) (hn8 : n ≤ 8) (hc : c < n) (hV : ¬ s 3 - s (8 + 6 * c + 2) ≤ s 7) : zRn x (d + 4) 170 [.ref 51, .int (nI c), .int (nI p), .int (f)] (I, J, R, G) (some (.int (1))) (I, J, R, G) := by
  show zOk x (d + 4) 170 0 [.ref 51, .int (nI c), .int (nI p), .int (f)] [] _ _
  refine k_aload f170_0 rfl ?_
  refine k_iload f170_1 rfl ?_
  refine e_v (as := [.int (nI c)]) (rest := []) f170_2 hS.o51 rfl rfl rfl (s_isVoidM hR hS hs (by omega)) ?_
  refine k_beq f170_5 (fun h_ => absurd (hV) h_) (fun _ => ?_)
  refine k_iconst (v := 1) f170_8 rfl ?_
  exact k_iret f170_9 rfl ⟨rfl, rfl⟩
theorem bP2 {x : Nat × (Nat → Int32)} {d : Nat} {I : Nat → Nat → Int32} {J : Nat → Nat → Int64} {R : Nat → Nat → Option Nat} {G : zG} {n c p : Nat} {s : Nat → Int32} {f : Int32} (hR : Rs R) (hS : Sh G) (hs : I 62 = s) (hn : s 1 = nI n) (hn8 : n ≤ 8) (hc : c < n) {m k : Nat} (hm : s 2 = nI m) (hm8 : m ≤ 25) (hne : ∀ i, i < m → s (56 + 3 * i + 1) ≠ s (56 + 3 * i + 2)) (ek : acc (fM s (s (8 + 6 * c + 1))) m = nI k) (hk : k < 1024) (hp : p < 10) (hV : ¬ ¬ s 3 - s (8 + 6 * c + 2) ≤ s 7) (hM : ¬ k.testBit p = true) : zRn x (d + 4) 170 [.ref 51, .int (nI c), .int (nI p), .int (f)] (I, J, R, G) (some (.int (2))) (I, J, R, G) := by
  show zOk x (d + 4) 170 0 [.ref 51, .int (nI c), .int (nI p), .int (f)] [] _ _
  refine k_aload f170_0 rfl ?_
  refine k_iload f170_1 rfl ?_
  refine e_v (as := [.int (nI c)]) (rest := []) f170_2 hS.o51 rfl rfl rfl (s_isVoidM hR hS hs (by omega)) ?_
  refine k_beq f170_5 (fun _ => ?_) (fun h_ => (absurd h_ (hV)))
  refine k_aload f170_10 rfl ?_
  refine k_aload f170_11 rfl ?_
  refine k_iload f170_12 rfl ?_
  refine k_iconst (v := 1) f170_13 rfl ?_
  refine e_v (as := [.int (1), .int (nI c)]) (rest := [.ref 51]) f170_14 hS.o51 rfl rfl rfl (s_coinOf (c := c) (k := 1) (v := s (8 + 6 * c + 1)) hR hS (by omega) (congrFun hs _)) ?_
  refine e_v (as := [.int (s (8 + 6 * c + 1))]) (rest := []) f170_17 hS.o51 rfl rfl rfl (s_metBy (p := s (8 + 6 * c + 1)) hR hS hs hm hm8 hne) ?_
  refine k_iload f170_20 rfl ?_
  refine e_s (as := [.int (nI p), .int (acc (fM s (s (8 + 6 * c + 1))) m)]) (rest := []) f170_21 rfl rfl rfl ((by rw [ek]; exact s_isOf (b := k) (p := p) (by omega) (by omega))) ?_
  refine k_bne f170_24 (fun h_ => absurd h_ (hM)) (fun _ => ?_)
  refine k_iconst (v := 2) f170_27 rfl ?_
  exact k_iret f170_28 rfl ⟨rfl, rfl⟩
theorem bP3 {x : Nat × (Nat → Int32)} {d : Nat} {I : Nat → Nat → Int32} {J : Nat → Nat → Int64} {R : Nat → Nat → Option Nat} {G : zG} {n c p : Nat} {s : Nat → Int32} {f : Int32} (hR : Rs R) (hS : Sh G) (hs : I 62 = s) (hn : s 1 = nI n) (hn8 : n ≤ 8) (hc : c < n) {m k : Nat} (hm : s 2 = nI m) (hm8 : m ≤ 25) (hne : ∀ i, i < m → s (56 + 3 * i + 1) ≠ s (56 + 3 * i + 2)) (ek : acc (fM s (s (8 + 6 * c + 1))) m = nI k) (hk : k < 1024) (hp : p < 10) (hA : RuA I R G) (hf : f = -1 ∨ Rg f (cl (I 0 4))) (hh : Rg (s (8 + 6 * c + 3)) 1024) (hV : ¬ ¬ s 3 - s (8 + 6 * c + 2) ≤ s 7) (hM : k.testBit p = true) (hB : baB I f (wP s n c p) = true) : zOk x (d + 4) 170 0 [.ref 51, .int (nI c), .int (nI p), .int (f)] [] (I, J, R, G) (fun v mm => v = some (.int 3) ∧ ∃ I' J', mm = (I', J', R, G) ∧ (∀ p k, ¬ (p = 51 ∧ k = 23) → I' p k = I p k)) := by
  refine k_aload f170_0 rfl ?_
  refine k_iload f170_1 rfl ?_
  refine e_v (as := [.int (nI c)]) (rest := []) f170_2 hS.o51 rfl rfl rfl (s_isVoidM hR hS hs (by omega)) ?_
  refine k_beq f170_5 (fun _ => ?_) (fun h_ => (absurd h_ (hV)))
  refine k_aload f170_10 rfl ?_
  refine k_aload f170_11 rfl ?_
  refine k_iload f170_12 rfl ?_
  refine k_iconst (v := 1) f170_13 rfl ?_
  refine e_v (as := [.int (1), .int (nI c)]) (rest := [.ref 51]) f170_14 hS.o51 rfl rfl rfl (s_coinOf (c := c) (k := 1) (v := s (8 + 6 * c + 1)) hR hS (by omega) (congrFun hs _)) ?_
  refine e_v (as := [.int (s (8 + 6 * c + 1))]) (rest := []) f170_17 hS.o51 rfl rfl rfl (s_metBy (p := s (8 + 6 * c + 1)) hR hS hs hm hm8 hne) ?_
  refine k_iload f170_20 rfl ?_
  refine e_s (as := [.int (nI p), .int (acc (fM s (s (8 + 6 * c + 1))) m)]) (rest := []) f170_21 rfl rfl rfl ((by rw [ek]; exact s_isOf (b := k) (p := p) (by omega) (by omega))) ?_
  refine k_bne f170_24 (fun _ => ?_) (fun h_ => absurd (hM) h_)
  refine k_aload f170_29 rfl ?_
  refine k_iload f170_30 rfl ?_
  refine k_iload f170_31 rfl ?_
  refine k_callv (as := [.int (nI p), .int (nI c)]) (rest := []) f170_32 hS.o51 rfl rfl rfl rfl (r_pay (c := c) hR hS hs hn hn8 hc hh hp) ?_
  rintro _ _ ⟨rfl, J1, rfl, hJ1⟩
  refine k_aload f170_35 rfl ?_
  refine k_iload f170_36 rfl ?_
  refine k_callv (as := [.int (f)]) (rest := []) f170_37 hS.o51 rfl rfl rfl rfl (q_barred (f := f) (w := wP s n c p) hR hS hA hf hJ1) ?_
  rintro _ _ ⟨rfl, I2, J2, rfl, hI2, hJ2⟩
  refine k_beq f170_40 (fun h_ => absurd (hB) h_) (fun _ => ?_)
  refine k_iconst (v := 3) f170_43 rfl ?_
  refine k_goto f170_44 ?_
  exact k_iret f170_48 rfl ⟨rfl, I2, J2, rfl, hI2⟩
theorem bP0 {x : Nat × (Nat → Int32)} {d : Nat} {I : Nat → Nat → Int32} {J : Nat → Nat → Int64} {R : Nat → Nat → Option Nat} {G : zG} {n c p : Nat} {s : Nat → Int32} {f : Int32} (hR : Rs R) (hS : Sh G) (hs : I 62 = s) (hn : s 1 = nI n) (hn8 : n ≤ 8) (hc : c < n) {m k : Nat} (hm : s 2 = nI m) (hm8 : m ≤ 25) (hne : ∀ i, i < m → s (56 + 3 * i + 1) ≠ s (56 + 3 * i + 2)) (ek : acc (fM s (s (8 + 6 * c + 1))) m = nI k) (hk : k < 1024) (hp : p < 10) (hA : RuA I R G) (hf : f = -1 ∨ Rg f (cl (I 0 4))) (hh : Rg (s (8 + 6 * c + 3)) 1024) (hV : ¬ ¬ s 3 - s (8 + 6 * c + 2) ≤ s 7) (hM : k.testBit p = true) (hB : ¬ baB I f (wP s n c p) = true) : zOk x (d + 4) 170 0 [.ref 51, .int (nI c), .int (nI p), .int (f)] [] (I, J, R, G) (fun v mm => v = some (.int 0) ∧ ∃ I' J', mm = (I', J', R, G) ∧ (∀ p k, ¬ (p = 51 ∧ k = 23) → I' p k = I p k)) := by
  refine k_aload f170_0 rfl ?_
  refine k_iload f170_1 rfl ?_
  refine e_v (as := [.int (nI c)]) (rest := []) f170_2 hS.o51 rfl rfl rfl (s_isVoidM hR hS hs (by omega)) ?_
  refine k_beq f170_5 (fun _ => ?_) (fun h_ => (absurd h_ (hV)))
  refine k_aload f170_10 rfl ?_
  refine k_aload f170_11 rfl ?_
  refine k_iload f170_12 rfl ?_
  refine k_iconst (v := 1) f170_13 rfl ?_
  refine e_v (as := [.int (1), .int (nI c)]) (rest := [.ref 51]) f170_14 hS.o51 rfl rfl rfl (s_coinOf (c := c) (k := 1) (v := s (8 + 6 * c + 1)) hR hS (by omega) (congrFun hs _)) ?_
  refine e_v (as := [.int (s (8 + 6 * c + 1))]) (rest := []) f170_17 hS.o51 rfl rfl rfl (s_metBy (p := s (8 + 6 * c + 1)) hR hS hs hm hm8 hne) ?_
  refine k_iload f170_20 rfl ?_
  refine e_s (as := [.int (nI p), .int (acc (fM s (s (8 + 6 * c + 1))) m)]) (rest := []) f170_21 rfl rfl rfl ((by rw [ek]; exact s_isOf (b := k) (p := p) (by omega) (by omega))) ?_
  refine k_bne f170_24 (fun _ => ?_) (fun h_ => absurd (hM) h_)
  refine k_aload f170_29 rfl ?_
  refine k_iload f170_30 rfl ?_
  refine k_iload f170_31 rfl ?_
  refine k_callv (as := [.int (nI p), .int (nI c)]) (rest := []) f170_32 hS.o51 rfl rfl rfl rfl (r_pay (c := c) hR hS hs hn hn8 hc hh hp) ?_
  rintro _ _ ⟨rfl, J1, rfl, hJ1⟩
  refine k_aload f170_35 rfl ?_
  refine k_iload f170_36 rfl ?_
  refine k_callv (as := [.int (f)]) (rest := []) f170_37 hS.o51 rfl rfl rfl rfl (q_barred (f := f) (w := wP s n c p) hR hS hA hf hJ1) ?_
  rintro _ _ ⟨rfl, I2, J2, rfl, hI2, hJ2⟩
  refine k_beq f170_40 (fun _ => ?_) (fun h_ => (absurd h_ (hB)))
  refine k_iconst (v := 0) f170_47 rfl ?_
  exact k_iret f170_48 rfl ⟨rfl, I2, J2, rfl, hI2⟩
theorem bH1 {x : Nat × (Nat → Int32)} {d : Nat} {I : Nat → Nat → Int32} {J : Nat → Nat → Int64} {R : Nat → Nat → Option Nat} {G : zG} {n c : Nat} {s : Nat → Int32} {f : Int32} (hR : Rs R) (hS : Sh G) (hs : I 62 = s) (hn : s 1 = nI n) (hn8 : n ≤ 8) (hc : c < n) (hV : ¬ s 3 - s (8 + 6 * c + 2) ≤ s 7) : zRn x (d + 4) 171 [.ref 51, .int (nI c), .int (f)] (I, J, R, G) (some (.int (1))) (I, J, R, G) := by
  show zOk x (d + 4) 171 0 [.ref 51, .int (nI c), .int (f)] [] _ _
  refine k_aload f171_0 rfl ?_
  refine k_iload f171_1 rfl ?_
  refine e_v (as := [.int (nI c)]) (rest := []) f171_2 hS.o51 rfl rfl rfl (s_isVoidM hR hS hs (by omega)) ?_
  refine k_beq f171_5 (fun h_ => absurd (hV) h_) (fun _ => ?_)
  refine k_iconst (v := 1) f171_8 rfl ?_
  exact k_iret f171_9 rfl ⟨rfl, rfl⟩
theorem bH2 {x : Nat × (Nat → Int32)} {d : Nat} {I : Nat → Nat → Int32} {J : Nat → Nat → Int64} {R : Nat → Nat → Option Nat} {G : zG} {n c : Nat} {s : Nat → Int32} {f : Int32} (hR : Rs R) (hS : Sh G) (hs : I 62 = s) (hn : s 1 = nI n) (hn8 : n ≤ 8) (hc : c < n) (hV : ¬ ¬ s 3 - s (8 + 6 * c + 2) ≤ s 7) (hF : s (8 + 6 * c + 4) = 0) : zRn x (d + 4) 171 [.ref 51, .int (nI c), .int (f)] (I, J, R, G) (some (.int (2))) (I, J, R, G) := by
  show zOk x (d + 4) 171 0 [.ref 51, .int (nI c), .int (f)] [] _ _
  refine k_aload f171_0 rfl ?_
  refine k_iload f171_1 rfl ?_
  refine e_v (as := [.int (nI c)]) (rest := []) f171_2 hS.o51 rfl rfl rfl (s_isVoidM hR hS hs (by omega)) ?_
  refine k_beq f171_5 (fun _ => ?_) (fun h_ => (absurd h_ (hV)))
  refine k_aload f171_10 rfl ?_
  refine k_iload f171_11 rfl ?_
  refine k_iconst (v := 4) f171_12 rfl ?_
  refine e_v (as := [.int (4), .int (nI c)]) (rest := []) f171_13 hS.o51 rfl rfl rfl (s_coinOf (c := c) (k := 4) (v := s (8 + 6 * c + 4)) hR hS (by omega) (congrFun hs _)) ?_
  refine k_if_ne f171_16 (fun h_ => absurd (hF) h_) (fun _ => ?_)
  refine k_iconst (v := 2) f171_19 rfl ?_
  exact k_iret f171_20 rfl ⟨rfl, rfl⟩
theorem bH3 {x : Nat × (Nat → Int32)} {d : Nat} {I : Nat → Nat → Int32} {J : Nat → Nat → Int64} {R : Nat → Nat → Option Nat} {G : zG} {n c : Nat} {s : Nat → Int32} {f : Int32} (hR : Rs R) (hS : Sh G) (hs : I 62 = s) (hn : s 1 = nI n) (hn8 : n ≤ 8) (hc : c < n) (hA : RuA I R G) (hf : f = -1 ∨ Rg f (cl (I 0 4))) (hh : Rg (s (8 + 6 * c + 3)) 1024) (hV : ¬ ¬ s 3 - s (8 + 6 * c + 2) ≤ s 7) (hF : ¬ s (8 + 6 * c + 4) = 0) (hB : baB I f (wH s n c) = true) : zOk x (d + 4) 171 0 [.ref 51, .int (nI c), .int (f)] [] (I, J, R, G) (fun v mm => v = some (.int 3) ∧ ∃ I' J', mm = (I', J', R, G) ∧ (∀ p k, ¬ (p = 51 ∧ k = 23) → I' p k = I p k)) := by
  refine k_aload f171_0 rfl ?_
  refine k_iload f171_1 rfl ?_
  refine e_v (as := [.int (nI c)]) (rest := []) f171_2 hS.o51 rfl rfl rfl (s_isVoidM hR hS hs (by omega)) ?_
  refine k_beq f171_5 (fun _ => ?_) (fun h_ => (absurd h_ (hV)))
  refine k_aload f171_10 rfl ?_
  refine k_iload f171_11 rfl ?_
  refine k_iconst (v := 4) f171_12 rfl ?_
  refine e_v (as := [.int (4), .int (nI c)]) (rest := []) f171_13 hS.o51 rfl rfl rfl (s_coinOf (c := c) (k := 4) (v := s (8 + 6 * c + 4)) hR hS (by omega) (congrFun hs _)) ?_
  refine k_if_ne f171_16 (fun _ => ?_) (fun h_ => absurd (hF) h_)
  refine k_aload f171_21 rfl ?_
  refine k_iload f171_22 rfl ?_
  refine k_callv (as := [.int (nI c)]) (rest := []) f171_23 hS.o51 rfl rfl rfl rfl (r_home (c := c) hR hS hs hn hn8 hc hh) ?_
  rintro _ _ ⟨rfl, J1, rfl, hJ1⟩
  refine k_aload f171_26 rfl ?_
  refine k_iload f171_27 rfl ?_
  refine k_callv (as := [.int (f)]) (rest := []) f171_28 hS.o51 rfl rfl rfl rfl (q_barred (f := f) (w := wH s n c) hR hS hA hf hJ1) ?_
  rintro _ _ ⟨rfl, I2, J2, rfl, hI2, hJ2⟩
  refine k_beq f171_31 (fun h_ => absurd (hB) h_) (fun _ => ?_)
  refine k_iconst (v := 3) f171_34 rfl ?_
  refine k_goto f171_35 ?_
  exact k_iret f171_39 rfl ⟨rfl, I2, J2, rfl, hI2⟩
theorem bH0 {x : Nat × (Nat → Int32)} {d : Nat} {I : Nat → Nat → Int32} {J : Nat → Nat → Int64} {R : Nat → Nat → Option Nat} {G : zG} {n c : Nat} {s : Nat → Int32} {f : Int32} (hR : Rs R) (hS : Sh G) (hs : I 62 = s) (hn : s 1 = nI n) (hn8 : n ≤ 8) (hc : c < n) (hA : RuA I R G) (hf : f = -1 ∨ Rg f (cl (I 0 4))) (hh : Rg (s (8 + 6 * c + 3)) 1024) (hV : ¬ ¬ s 3 - s (8 + 6 * c + 2) ≤ s 7) (hF : ¬ s (8 + 6 * c + 4) = 0) (hB : ¬ baB I f (wH s n c) = true) : zOk x (d + 4) 171 0 [.ref 51, .int (nI c), .int (f)] [] (I, J, R, G) (fun v mm => v = some (.int 0) ∧ ∃ I' J', mm = (I', J', R, G) ∧ (∀ p k, ¬ (p = 51 ∧ k = 23) → I' p k = I p k)) := by
  refine k_aload f171_0 rfl ?_
  refine k_iload f171_1 rfl ?_
  refine e_v (as := [.int (nI c)]) (rest := []) f171_2 hS.o51 rfl rfl rfl (s_isVoidM hR hS hs (by omega)) ?_
  refine k_beq f171_5 (fun _ => ?_) (fun h_ => (absurd h_ (hV)))
  refine k_aload f171_10 rfl ?_
  refine k_iload f171_11 rfl ?_
  refine k_iconst (v := 4) f171_12 rfl ?_
  refine e_v (as := [.int (4), .int (nI c)]) (rest := []) f171_13 hS.o51 rfl rfl rfl (s_coinOf (c := c) (k := 4) (v := s (8 + 6 * c + 4)) hR hS (by omega) (congrFun hs _)) ?_
  refine k_if_ne f171_16 (fun _ => ?_) (fun h_ => absurd (hF) h_)
  refine k_aload f171_21 rfl ?_
  refine k_iload f171_22 rfl ?_
  refine k_callv (as := [.int (nI c)]) (rest := []) f171_23 hS.o51 rfl rfl rfl rfl (r_home (c := c) hR hS hs hn hn8 hc hh) ?_
  rintro _ _ ⟨rfl, J1, rfl, hJ1⟩
  refine k_aload f171_26 rfl ?_
  refine k_iload f171_27 rfl ?_
  refine k_callv (as := [.int (f)]) (rest := []) f171_28 hS.o51 rfl rfl rfl rfl (q_barred (f := f) (w := wH s n c) hR hS hA hf hJ1) ?_
  rintro _ _ ⟨rfl, I2, J2, rfl, hI2, hJ2⟩
  refine k_beq f171_31 (fun _ => ?_) (fun h_ => (absurd h_ (hB)))
  refine k_iconst (v := 0) f171_38 rfl ?_
  exact k_iret f171_39 rfl ⟨rfl, I2, J2, rfl, hI2⟩
