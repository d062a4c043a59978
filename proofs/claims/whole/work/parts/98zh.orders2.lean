/-! THE MEETINGS that count, in their order, in the reference. -/
def elP (s : Nat → Int32) (fr : Int32) (g k : Nat) : Bool := decide (¬ s (56 + 3 * k) < fr) && !g.testBit k
theorem elP_1 {s : Nat → Int32} {fr : Int32} {g k : Nat} (h1 : ¬ s (56 + 3 * k) < fr) (h2 : ¬ g.testBit k = true) : elP s fr g k = true := by
  unfold elP
  simp [h1, h2]
theorem elP_0 {s : Nat → Int32} {fr : Int32} {g k : Nat} (h : s (56 + 3 * k) < fr ∨ g.testBit k = true) : ¬ elP s fr g k = true := by
  unfold elP
  rcases h with h | h <;> simp [h]
theorem lp_ord {x : Nat × (Nat → Int32)} {d : Nat} {J : Nat → Nat → Int64} {R : Nat → Nat → Option Nat} {G : zG} {I0 : Nat → Nat → Int32} {m g : Nat} {fr : Int32} {s : Nat → Int32} (hR : Rs R) (hS : Sh G) (hs : I0 62 = s) (hs2 : s 2 = nI m) (hm24 : m ≤ 24) (hg : g < 2 ^ 31) : ∀ (f i : Nat) (I : Nat → Nat → Int32) (u4 : Value), i + f = m → (AR I (frL (elP s fr g) (fun k => s (56 + 3 * k)) i) ∧ I 51 29 = nI (frL (elP s fr g) (fun k => s (56 + 3 * k)) i).length ∧ (∀ p k, p ≠ 64 → ¬ (p = 51 ∧ k = 29) → I p k = I0 p k)) → zOk x (d + 1) 183 7 [.ref 51, .int (fr), .int (nI g), .int (nI i), u4] [] (I, J, R, G) (fun v mm => v = none ∧ ∃ I', mm = (I', J, R, G) ∧ AR I' (frL (elP s fr g) (fun k => s (56 + 3 * k)) m) ∧ I' 51 29 = nI (frL (elP s fr g) (fun k => s (56 + 3 * k)) m).length ∧ (∀ p k, p ≠ 64 → ¬ (p = 51 ∧ k = 29) → I' p k = I0 p k)) := by
  intro f
  induction f with
  | zero =>
    intro i I u4 hi hz
    obtain ⟨hA, h29, hfr⟩ := hz
    have s62 : I 62 = s := (funext fun k => hfr 62 k (by omega) (by omega)).trans hs
    refine k_iload f183_7 rfl ?_
    refine k_aload f183_8 rfl ?_
    refine k_getr (q := 62) f183_9 hS.o51 rfl hR.r51_25 ?_
    refine k_iconst (v := 2) f183_12 rfl ?_
    refine k_ia (k := 2) (w := nI m) f183_13 hS.a62 rfl (by decide) (by decide) ((congrFun s62 2).trans hs2) ?_
    refine k_ic_ge f183_14 (fun _ => ?_) (fun h_ => absurd (nI_le (by omega) (by omega)) h_)
    exact k_vret f183_118 ⟨rfl, I, rfl, (show i = m by omega) ▸ hA, (show i = m by omega) ▸ h29, hfr⟩
  | succ f ih =>
    intro i I u4 hi hz
    obtain ⟨hA, h29, hfr⟩ := hz
    have s62 : I 62 = s := (funext fun k => hfr 62 k (by omega) (by omega)).trans hs
    have hin : i < m := by omega
    obtain ⟨L, eL⟩ : ∃ L, L = frL (elP s fr g) (fun k => s (56 + 3 * k)) i := ⟨_, rfl⟩
    have hL : L.length ≤ i := by rw [eL]; exact frL_len i
    rw [← eL] at hA h29
    have hmem : ∀ a, a ∈ L → a < 24 := fun a ha => by rw [eL] at ha; have := frL_mem ha; omega
    by_cases g1 : s (56 + 3 * i) < fr
    · refine k_iload f183_7 rfl ?_
      refine k_aload f183_8 rfl ?_
      refine k_getr (q := 62) f183_9 hS.o51 rfl hR.r51_25 ?_
      refine k_iconst (v := 2) f183_12 rfl ?_
      refine k_ia (k := 2) (w := nI m) f183_13 hS.a62 rfl (by decide) (by decide) ((congrFun s62 2).trans hs2) ?_
      refine k_ic_ge f183_14 (fun h_ => absurd h_ (nI_ge hin (by omega))) (fun _ => ?_)
      refine k_aload f183_17 rfl ?_
      refine k_iload f183_18 rfl ?_
      refine k_iconst (v := 0) f183_19 rfl ?_
      refine e_v (as := [.int (0), .int (nI i)]) (rest := []) f183_20 hS.o51 rfl rfl rfl (s_meetOf (c := i) (k := 0) (v := s (56 + 3 * i)) hR hS (by omega) (congrFun s62 _)) ?_
      refine k_iload f183_23 rfl ?_
      refine k_ic_lt f183_24 (fun _ => ?_) (fun h_ => absurd (g1) h_)
      refine k_iinc (w := nI (i + 1)) (L' := [.ref 51, .int (fr), .int (nI g), .int (nI (i + 1)), u4]) f183_112 rfl (nI_1 i) rfl rfl ?_
      refine k_goto f183_115 ?_
      have eF : frL (elP s fr g) (fun k => s (56 + 3 * k)) (i + 1) = frL (elP s fr g) (fun k => s (56 + 3 * k)) i := if_neg (elP_0 (Or.inl g1))
      exact ih (i + 1) I _ (by omega) ⟨by rw [eF, ← eL]; exact hA, by rw [eF, ← eL]; exact h29, hfr⟩
    · by_cases g2 : g.testBit i = true
      · refine k_iload f183_7 rfl ?_
        refine k_aload f183_8 rfl ?_
        refine k_getr (q := 62) f183_9 hS.o51 rfl hR.r51_25 ?_
        refine k_iconst (v := 2) f183_12 rfl ?_
        refine k_ia (k := 2) (w := nI m) f183_13 hS.a62 rfl (by decide) (by decide) ((congrFun s62 2).trans hs2) ?_
        refine k_ic_ge f183_14 (fun h_ => absurd h_ (nI_ge hin (by omega))) (fun _ => ?_)
        refine k_aload f183_17 rfl ?_
        refine k_iload f183_18 rfl ?_
        refine k_iconst (v := 0) f183_19 rfl ?_
        refine e_v (as := [.int (0), .int (nI i)]) (rest := []) f183_20 hS.o51 rfl rfl rfl (s_meetOf (c := i) (k := 0) (v := s (56 + 3 * i)) hR hS (by omega) (congrFun s62 _)) ?_
        refine k_iload f183_23 rfl ?_
        refine k_ic_lt f183_24 (fun h_ => absurd h_ (g1)) (fun _ => ?_)
        refine k_iload f183_27 rfl ?_
        refine k_iload f183_28 rfl ?_
        refine e_s (as := [.int (nI i), .int (nI g)]) (rest := []) f183_29 rfl rfl rfl (s_isOf (b := g) (p := i) (by omega) (by omega)) ?_
        refine k_beq f183_32 (fun h_ => absurd (g2) h_) (fun _ => ?_)
        refine k_goto f183_35 ?_
        refine k_iinc (w := nI (i + 1)) (L' := [.ref 51, .int (fr), .int (nI g), .int (nI (i + 1)), u4]) f183_112 rfl (nI_1 i) rfl rfl ?_
        refine k_goto f183_115 ?_
        have eF : frL (elP s fr g) (fun k => s (56 + 3 * k)) (i + 1) = frL (elP s fr g) (fun k => s (56 + 3 * k)) i := if_neg (elP_0 (Or.inr g2))
        exact ih (i + 1) I _ (by omega) ⟨by rw [eF, ← eL]; exact hA, by rw [eF, ← eL]; exact h29, hfr⟩
      · refine k_iload f183_7 rfl ?_
        refine k_aload f183_8 rfl ?_
        refine k_getr (q := 62) f183_9 hS.o51 rfl hR.r51_25 ?_
        refine k_iconst (v := 2) f183_12 rfl ?_
        refine k_ia (k := 2) (w := nI m) f183_13 hS.a62 rfl (by decide) (by decide) ((congrFun s62 2).trans hs2) ?_
        refine k_ic_ge f183_14 (fun h_ => absurd h_ (nI_ge hin (by omega))) (fun _ => ?_)
        refine k_aload f183_17 rfl ?_
        refine k_iload f183_18 rfl ?_
        refine k_iconst (v := 0) f183_19 rfl ?_
        refine e_v (as := [.int (0), .int (nI i)]) (rest := []) f183_20 hS.o51 rfl rfl rfl (s_meetOf (c := i) (k := 0) (v := s (56 + 3 * i)) hR hS (by omega) (congrFun s62 _)) ?_
        refine k_iload f183_23 rfl ?_
        refine k_ic_lt f183_24 (fun h_ => absurd h_ (g1)) (fun _ => ?_)
        refine k_iload f183_27 rfl ?_
        refine k_iload f183_28 rfl ?_
        refine e_s (as := [.int (nI i), .int (nI g)]) (rest := []) f183_29 rfl rfl rfl (s_isOf (b := g) (p := i) (by omega) (by omega)) ?_
        refine k_beq f183_32 (fun _ => ?_) (fun h_ => (absurd h_ (g2)))
        refine k_aload f183_38 rfl ?_
        refine k_gI (w := nI L.length) f183_39 hS.o51 rfl h29 ?_
        refine k_istore (L' := [.ref 51, .int (fr), .int (nI g), .int (nI i), .int (nI L.length)]) f183_42 rfl rfl ?_
        refine lp_ins (d := d) (I0 := I) hR hS s62 (by omega) L [] I (by simpa using hL) hmem ⟨hA, fun j hj => absurd hj (Nat.not_lt_zero _)⟩ (fun _ _ _ => rfl) (fun I2 u4 hA2 hf2 => ?_)
        rw [List.nil_append] at hA2
        refine k_aload f183_102 rfl ?_
        refine k_dup f183_103 ?_
        refine k_gI (w := nI L.length) f183_104 hS.o51 rfl ((hf2 51 29 (by omega)).trans h29) ?_
        refine k_iconst (v := 1) f183_107 rfl ?_
        refine k_iadd f183_108 ?_
        refine k_putI f183_109 hS.o51 rfl ?_
        refine k_iinc (w := nI (i + 1)) (L' := [.ref 51, .int (fr), .int (nI g), .int (nI (i + 1)), u4]) f183_112 rfl (nI_1 i) rfl rfl ?_
        refine k_goto f183_115 ?_
        have eF : frL (elP s fr g) (fun k => s (56 + 3 * k)) (i + 1) = insL (fun k => s (56 + 3 * k)) i L := by
          rw [eL]
          exact if_pos (elP_1 g1 g2)
        refine ih (i + 1) _ _ (by omega) ⟨?_, ?_, fun p k g1 g2 => ?_⟩
        · rw [eF]
          intro j hj
          rw [z_u_p _ _ _ _ (by omega)]
          exact hA2 j hj
        · rw [eF, insL_len, z_u_same, nI_1]
        · rw [z_u_no _ _ g2, hf2 p k g1]
          exact hfr p k g1 g2
theorem q_orders {x : Nat × (Nat → Int32)} {d : Nat} {I : Nat → Nat → Int32} {J : Nat → Nat → Int64} {R : Nat → Nat → Option Nat} {G : zG} {m g : Nat} {fr : Int32} {s : Nat → Int32} (hR : Rs R) (hS : Sh G) (hs : I 62 = s) (hs2 : s 2 = nI m) (hm24 : m ≤ 24) (hg : g < 2 ^ 31) : zOk x (d + 1) 183 0 [.ref 51, .int (fr), .int (nI g), zU, zU] [] (I, J, R, G) (fun v mm => v = none ∧ ∃ I', mm = (I', J, R, G) ∧ AR I' (frL (elP s fr g) (fun k => s (56 + 3 * k)) m) ∧ I' 51 29 = nI (frL (elP s fr g) (fun k => s (56 + 3 * k)) m).length ∧ (∀ p k, p ≠ 64 → ¬ (p = 51 ∧ k = 29) → I' p k = I p k)) := by
  refine k_aload f183_0 rfl ?_
  refine k_iconst (v := 0) f183_1 rfl ?_
  refine k_putI f183_2 hS.o51 rfl ?_
  refine k_iconst (v := 0) f183_5 rfl ?_
  refine k_istore (L' := [.ref 51, .int (fr), .int (nI g), .int (0), zU]) f183_6 rfl rfl ?_
  refine zOk.imp (lp_ord (d := d) (I0 := I) hR hS hs hs2 hm24 hg m 0 _ _ (by omega) ⟨fun j hj => absurd hj (Nat.not_lt_zero _), z_u_same _ _ _ _, fun p k g1 g2 => z_u_no _ _ g2⟩) ?_
  exact fun _ _ h => h
