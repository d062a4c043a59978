/-! DEAR. -/
theorem fdS_bit {w1 w2 a b r q : Nat} : (fdS w1 w2 a b r).testBit q = true ↔ r.testBit q = true ∨ (r.testBit a = true ∧ w1 = 1 ∧ b = q) ∨ (r.testBit b = true ∧ w2 = 1 ∧ a = q) := by
  unfold fdS
  by_cases h1 : r.testBit a = true ∧ w1 = 1
  · rw [if_pos h1]
    by_cases h2 : r.testBit b = true ∧ w2 = 1
    · rw [if_pos h2, or_bit, or_bit]
      refine ⟨fun k => ?_, fun k => ?_⟩
      · rcases k with (k | k) | k
        · exact Or.inl k
        · exact Or.inr (Or.inl ⟨h1.1, h1.2, k⟩)
        · exact Or.inr (Or.inr ⟨h2.1, h2.2, k⟩)
      · rcases k with k | k | k
        · exact Or.inl (Or.inl k)
        · exact Or.inl (Or.inr k.2.2)
        · exact Or.inr k.2.2
    · rw [if_neg h2, or_bit]
      refine ⟨fun k => ?_, fun k => ?_⟩
      · rcases k with k | k
        · exact Or.inl k
        · exact Or.inr (Or.inl ⟨h1.1, h1.2, k⟩)
      · rcases k with k | k | k
        · exact Or.inl k
        · exact Or.inr k.2.2
        · exact absurd ⟨k.1, k.2.1⟩ h2
  · rw [if_neg h1]
    by_cases h2 : r.testBit b = true ∧ w2 = 1
    · rw [if_pos h2, or_bit]
      refine ⟨fun k => ?_, fun k => ?_⟩
      · rcases k with k | k
        · exact Or.inl k
        · exact Or.inr (Or.inr ⟨h2.1, h2.2, k⟩)
      · rcases k with k | k | k
        · exact Or.inl k
        · exact absurd ⟨k.1, k.2.1⟩ h1
        · exact Or.inr k.2.2
    · rw [if_neg h2]
      refine ⟨Or.inl, fun k => ?_⟩
      rcases k with k | k | k
      · exact k
      · exact absurd ⟨k.1, k.2.1⟩ h1
      · exact absurd ⟨k.1, k.2.1⟩ h2
/-- with fewer meetings no more can have it -/
theorem fdL_mono {w1 w2 : Nat → Nat} {s : Nat → Int32} {g : Nat} : ∀ {l : List Nat} {r r0 : Nat}, (∀ j, j ∈ l → 0 ≤ s (56 + 3 * j)) → (∀ q, r.testBit q = true → r0.testBit q = true) → (fdL w1 w2 s 0 l r0).1 = -2 → (fdL w1 w2 s g l r).1 = -2 := by
  intro l
  induction l with
  | nil => intro r r0 _ _ _; rfl
  | cons j l ih =>
    intro r r0 hp hs h
    have hl := fun k hk => hp k (List.mem_cons_of_mem j hk)
    rw [fdL, if_neg (by simp)] at h
    by_cases hh : (r0.testBit (mA s j) = true ∧ w1 j = 2) ∨ (r0.testBit (mB s j) = true ∧ w2 j = 2)
    · rw [if_pos hh] at h
      have h : s (56 + 3 * j) = -2 := h
      have := hp j List.mem_cons_self
      rw [h] at this
      exact absurd this (by decide)
    · rw [if_neg hh] at h
      rw [fdL]
      by_cases e : g.testBit j = true
      · rw [if_pos e]
        exact ih hl (fun q hq => fdS_bit.mpr (Or.inl (hs q hq))) h
      · rw [if_neg e, if_neg (fun k => hh (k.elim (fun k => Or.inl ⟨hs _ k.1, k.2⟩) (fun k => Or.inr ⟨hs _ k.1, k.2⟩)))]
        refine ih hl (fun q hq => fdS_bit.mpr ?_) h
        rcases fdS_bit.mp hq with k | k | k
        · exact Or.inl (hs q k)
        · exact Or.inr (Or.inl ⟨hs _ k.1, k.2⟩)
        · exact Or.inr (Or.inr ⟨hs _ k.1, k.2⟩)
theorem FDk_mono {b : Nat → Nat → Int32} {s : Nat → Int32} {rn c g : Nat} (h : SOk s rn) (e : (FDk b s c 0).1 = -2) : (FDk b s c g).1 = -2 := by
  unfold FDk FD at e ⊢
  by_cases hb : hoB (baB b (s 6)) s (cl (s 1)) (nI c) (s (8 + 6 * c)) (s (8 + 6 * c + 2)) (s 3) (s (8 + 6 * c + 4)) (cl (s (8 + 6 * c + 1))) (cl (s (8 + 6 * c + 3))) = true
  · rw [if_pos hb] at e ⊢
    exact e
  · rw [if_neg hb] at e ⊢
    unfold FDc at e ⊢
    rw [fdC_L (w1 := fun j => wyV (baB b (s 6)) s (cl (s 1)) (nI c) (s (8 + 6 * c)) (s (8 + 6 * c + 2)) (s 3) (cl (s (8 + 6 * c + 3))) (mA s j) (mB s j) (s (56 + 3 * j))) (w2 := fun j => wyV (baB b (s 6)) s (cl (s 1)) (nI c) (s (8 + 6 * c)) (s (8 + 6 * c + 2)) (s 3) (cl (s (8 + 6 * c + 3))) (mB s j) (mA s j) (s (56 + 3 * j))) (s := s) (m := cl (s 2)) (cl (s 2)) 0 _ (by omega)] at e ⊢
    exact fdL_mono (fun j hj => rg_0le (h.md j (ordL_mem (List.mem_reverse.mp (List.mem_of_mem_drop hj)))).1 (by omega)) (fun q hq => hq) e
theorem bits_eq {f : Nat → Int32 → Int32} {P : Nat → Prop} (h1 : ∀ c a, P c → f c a = a ||| ((1 : Int32) <<< (nI c &&& 31))) (h0 : ∀ c a, ¬ P c → f c a = a) : ∀ n, n ≤ 31 → ∃ k, k < 2 ^ n ∧ acc f n = nI k ∧ ∀ c, k.testBit c = true ↔ c < n ∧ P c := by
  intro n
  induction n with
  | zero => intro _; exact ⟨0, by decide, rfl, fun c => by simp⟩
  | succ n ih =>
    intro hn
    obtain ⟨k, k1, k2, k3⟩ := ih (by omega)
    rw [acc_s, k2]
    by_cases g : P n
    · rw [h1 _ _ g, sh_1 n (by omega), nI_or]
      refine ⟨_, Nat.or_lt_two_pow (Nat.lt_of_lt_of_le k1 (Nat.pow_le_pow_right (by omega) (by omega))) (Nat.pow_lt_pow_right (by omega) (by omega)), rfl, fun c => ?_⟩
      rw [or_bit, k3]
      refine ⟨fun h => ?_, fun h => ?_⟩
      · rcases h with h | h
        · exact ⟨by omega, h.2⟩
        · subst h; exact ⟨by omega, g⟩
      · by_cases q : n = c
        · exact Or.inr q
        · exact Or.inl ⟨by omega, h.2⟩
    · rw [h0 _ _ g]
      refine ⟨k, Nat.lt_of_lt_of_le k1 (Nat.pow_le_pow_right (by omega) (by omega)), rfl, fun c => ?_⟩
      rw [k3]
      refine ⟨fun h => ⟨by omega, h.2⟩, fun h => ⟨?_, h.2⟩⟩
      by_cases q : n = c
      · subst q; exact absurd h.2 g
      · omega
def fW (s : Nat → Int32) (k c : Nat) (a : Int32) : Int32 := if k.testBit c = true then a + s (8 + 6 * c) else a
def fDe (b : Nat → Nat → Int32) (s : Nat → Int32) (g c : Nat) (a : Int32) : Int32 := if (s 3 - s (8 + 6 * c + 2) ≤ s 7 ∧ (FDk b s c g).1 = -2) ∧ ¬ (s 3 - s (8 + 6 * c + 2) ≤ s 7 ∧ (FDk b s c 0).1 = -2) then a + s (8 + 6 * c) else a
theorem dear_eq {b : Nat → Nat → Int32} {s : Nat → Int32} {rn g kg k0 N : Nat} (h : SOk s rn) (hg : ∀ c, kg.testBit c = true ↔ c < N ∧ (s 3 - s (8 + 6 * c + 2) ≤ s 7 ∧ (FDk b s c g).1 = -2)) (h0 : ∀ c, k0.testBit c = true ↔ c < N ∧ (s 3 - s (8 + 6 * c + 2) ≤ s 7 ∧ (FDk b s c 0).1 = -2)) : ∀ n, n ≤ N → acc (fW s kg) n = acc (fW s k0) n + acc (fDe b s g) n := by
  intro n
  induction n with
  | zero => intro _; rw [acc_0, acc_0, acc_0]; rfl
  | succ n ih =>
    intro hn
    rw [acc_s, acc_s, acc_s, fW, fW, fDe, ih (by omega)]
    by_cases a0 : s 3 - s (8 + 6 * n + 2) ≤ s 7 ∧ (FDk b s n 0).1 = -2
    · rw [if_pos ((h0 n).mpr ⟨by omega, a0⟩), if_pos ((hg n).mpr ⟨by omega, a0.1, FDk_mono h a0.2⟩), if_neg (fun q => q.2 a0), Int32.add_assoc, Int32.add_assoc, Int32.add_comm (acc (fDe b s g) n)]
    · rw [if_neg (fun q => a0 ((h0 n).mp q).2)]
      by_cases ag : s 3 - s (8 + 6 * n + 2) ≤ s 7 ∧ (FDk b s n g).1 = -2
      · rw [if_pos ((hg n).mpr ⟨by omega, ag⟩), if_pos ⟨ag, a0⟩, Int32.add_assoc]
      · rw [if_neg (fun q => ag ((hg n).mp q).2), if_neg (fun q => ag q.1)]
theorem lp_worthOf {x : Nat × (Nat → Int32)} {d : Nat} {I : Nat → Nat → Int32} {J : Nat → Nat → Int64} {R : Nat → Nat → Option Nat} {G : zG} {k n : Nat} {s : Nat → Int32} (hR : Rs R) (hS : Sh G) (hs : I 62 = s) (hn : s 1 = nI n) (hn8 : n ≤ 8) (hk : k < 2 ^ 31) : ∀ (f i : Nat), i + f = n → zOk x (d + 1) 192 4 [.ref 51, .int (nI k), .int (acc (fW s k) i), .int (nI i)] [] (I, J, R, G) (fun w m => w = some (.int (acc (fW s k) n)) ∧ m = (I, J, R, G)) := by
  intro f
  induction f with
  | zero =>
    intro i hi
    refine k_iload f192_4 rfl ?_
    refine k_aload f192_5 rfl ?_
    refine k_getr (q := 62) f192_6 hS.o51 rfl hR.r51_25 ?_
    refine k_iconst (v := 1) f192_9 rfl ?_
    refine k_ia (k := 1) (w := nI n) f192_10 hS.a62 rfl (by decide) (by decide) ((congrFun hs 1).trans hn) ?_
    refine k_ic_ge f192_11 (fun _ => ?_) (fun h_ => absurd (nI_le (by omega) (by omega)) h_)
    refine k_iload f192_41 rfl ?_
    exact k_iret f192_42 rfl ⟨by rw [show n = i by omega], rfl⟩
  | succ f ih =>
    intro i hi
    have hin : i < n := by omega
    refine k_iload f192_4 rfl ?_
    refine k_aload f192_5 rfl ?_
    refine k_getr (q := 62) f192_6 hS.o51 rfl hR.r51_25 ?_
    refine k_iconst (v := 1) f192_9 rfl ?_
    refine k_ia (k := 1) (w := nI n) f192_10 hS.a62 rfl (by decide) (by decide) ((congrFun hs 1).trans hn) ?_
    refine k_ic_ge f192_11 (fun h_ => absurd h_ (nI_ge hin (by omega))) (fun _ => ?_)
    refine k_iload f192_14 rfl ?_
    refine k_iload f192_15 rfl ?_
    refine k_iload f192_16 rfl ?_
    refine e_s (as := [.int (nI i), .int (nI k)]) (rest := [.int (acc (fW s k) i)]) f192_17 rfl rfl rfl (s_isOf (b := k) (p := i) (by omega) (by omega)) ?_
    refine k_beq f192_20 (fun g0 => ?_) (fun g0 => ?_)
    · refine k_iconst (v := 0) f192_32 rfl ?_
      refine k_iadd f192_33 ?_
      refine k_istore (L' := [.ref 51, .int (nI k), .int ((acc (fW s k) i) + (0)), .int (nI i)]) f192_34 rfl rfl ?_
      refine k_iinc (w := nI (i + 1)) (L' := [.ref 51, .int (nI k), .int ((acc (fW s k) i) + (0)), .int (nI (i + 1))]) f192_35 rfl (nI_1 i) rfl rfl ?_
      refine k_goto f192_38 ?_
      have e : (acc (fW s k) i) + (0) = acc (fW s k) (i + 1) := by
        rw [ad_0, acc_s, fW, if_neg g0]
      rw [e]
      exact ih (i + 1) (by omega)
    · refine k_aload f192_23 rfl ?_
      refine k_iload f192_24 rfl ?_
      refine k_iconst (v := 0) f192_25 rfl ?_
      refine e_v (as := [.int (0), .int (nI i)]) (rest := [.int (acc (fW s k) i)]) f192_26 hS.o51 rfl rfl rfl (s_coinOf (c := i) (k := 0) (v := s (8 + 6 * i)) hR hS (by omega) (congrFun hs _)) ?_
      refine k_goto f192_29 ?_
      refine k_iadd f192_33 ?_
      refine k_istore (L' := [.ref 51, .int (nI k), .int ((acc (fW s k) i) + (s (8 + 6 * i))), .int (nI i)]) f192_34 rfl rfl ?_
      refine k_iinc (w := nI (i + 1)) (L' := [.ref 51, .int (nI k), .int ((acc (fW s k) i) + (s (8 + 6 * i))), .int (nI (i + 1))]) f192_35 rfl (nI_1 i) rfl rfl ?_
      refine k_goto f192_38 ?_
      have e : (acc (fW s k) i) + (s (8 + 6 * i)) = acc (fW s k) (i + 1) := by
        rw [acc_s, fW, if_pos g0]
      rw [e]
      exact ih (i + 1) (by omega)
theorem s_worthOf {x : Nat × (Nat → Int32)} {d : Nat} {I : Nat → Nat → Int32} {J : Nat → Nat → Int64} {R : Nat → Nat → Option Nat} {G : zG} {k n : Nat} {s : Nat → Int32} (hR : Rs R) (hS : Sh G) (hs : I 62 = s) (hn : s 1 = nI n) (hn8 : n ≤ 8) (hk : k < 2 ^ 31) : zRn x (d + 1) 192 [.ref 51, .int (nI k)] (I, J, R, G) (some (.int (acc (fW s k) n))) (I, J, R, G) := by
  show zOk x (d + 1) 192 0 [.ref 51, .int (nI k), zU, zU] [] _ _
  refine k_iconst (v := 0) f192_0 rfl ?_
  refine k_istore (L' := [.ref 51, .int (nI k), .int (0), zU]) f192_1 rfl rfl ?_
  refine k_iconst (v := 0) f192_2 rfl ?_
  refine k_istore (L' := [.ref 51, .int (nI k), .int (0), .int (0)]) f192_3 rfl rfl ?_
  exact lp_worthOf hR hS hs hn hn8 hk n 0 (by omega)
