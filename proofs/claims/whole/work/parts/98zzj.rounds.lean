/-! RINGS: rounds, in the class. -/
def noB (y : Nat) : Bool := decide ((nI y ^^^ (-1)) &&& nI 1023 = nI (1023 ^^^ y))
theorem no_all : (List.range 1024).all noB = true := by decide +kernel
theorem no_eq {x y : Nat} (hx : x < 1024) (hy : y < 1024) : nI x &&& (nI y ^^^ (-1)) = nI (x &&& (1023 ^^^ y)) := by
  have h : (nI y ^^^ (-1)) &&& nI 1023 = nI (1023 ^^^ y) := of_decide_eq_true (List.all_eq_true.mp no_all y (List.mem_range.mpr hy))
  have e : nI x &&& nI 1023 = nI x := by
    rw [nI_and, show x &&& 1023 = x from by rw [show 1023 = 2 ^ 10 - 1 from rfl, Nat.and_two_pow_sub_one_eq_mod, Nat.mod_eq_of_lt hx]]
  rw [← nI_and, ← h, Int32.and_comm (nI y ^^^ (-1)), ← Int32.and_assoc, e]
theorem no_bit {x y q : Nat} (hq : q < 10) : (x &&& (1023 ^^^ y)).testBit q = true ↔ x.testBit q = true ∧ ¬ y.testBit q = true := by
  rw [Nat.testBit_and, Nat.testBit_xor, show 1023 = 2 ^ 10 - 1 from rfl, Nat.testBit_two_pow_sub_one, decide_eq_true hq]
  cases x.testBit q <;> cases y.testBit q <;> simp
theorem no_lt {x y : Nat} (hx : x < 1024) : x &&& (1023 ^^^ y) < 1024 := Nat.lt_of_le_of_lt Nat.and_le_left hx
def rnd (g : Nat → Nat) (st : Nat) : Nat → Nat → Nat → Nat
  | 0, a, _ => if (g a).testBit st = true then 1 else 0
  | l + 1, a, seen => foL (fun q t => if (g a).testBit q = true ∧ ¬ seen.testBit q = true then t + rnd g st l q (seen ||| 2 ^ q) else t) 0 10 0
theorem rnd_s (g : Nat → Nat) (st l a seen : Nat) : rnd g st (l + 1) a seen = foL (fun q t => if (g a).testBit q = true ∧ ¬ seen.testBit q = true then t + rnd g st l q (seen ||| 2 ^ q) else t) 0 10 0 := rfl
theorem q_rounds {x : Nat × (Nat → Int32)} {I : Nat → Nat → Int32} {J : Nat → Nat → Int64} {R : Nat → Nat → Option Nat} {G : zG} {g : Nat → Nat} {st : Nat} (hS : Sh G) (hg : AJ I 50 g) (hst : st < 10) : ∀ (l d a seen : Nat), l < 6 → a < 10 → seen < 1024 → zOk x (d + l + 1) 107 0 [.ref 50, .int (nI st), .int (nI a), .int (nI seen), .int (nI l), zU, zU] [] (I, J, R, G) (fun v m => v = some (.int (nI (rnd g st l a seen))) ∧ m = (I, J, R, G)) := by
  intro l
  induction l with
  | zero =>
    intro d a seen _ ha hs
    by_cases hb : (g a).testBit st = true
    · refine k_iload f107_0 rfl ?_
      refine k_if_gt f107_2 (fun h_ => absurd h_ (by decide)) (fun _ => ?_)
      refine k_aload f107_5 rfl ?_
      refine k_iload f107_6 rfl ?_
      refine k_ia (k := a) (w := nI (g a)) f107_7 hS.a50 rfl (by omega) (by decide) (hg a ha).1 ?_
      refine k_iload f107_8 rfl ?_
      refine e_s (as := [.int (nI st), .int (nI (g a))]) (rest := []) f107_9 rfl rfl rfl (s_has (b := g a) (p := st) (by have := (hg a ha).2; omega) (by omega)) ?_
      refine k_beq f107_12 (fun h_ => absurd (hb) h_) (fun _ => ?_)
      refine k_iconst (v := 1) f107_15 rfl ?_
      refine k_goto f107_16 ?_
      exact k_iret f107_20 rfl ⟨by rw [show rnd g st 0 a seen = 1 from if_pos hb]; rfl, rfl⟩
    · refine k_iload f107_0 rfl ?_
      refine k_if_gt f107_2 (fun h_ => absurd h_ (by decide)) (fun _ => ?_)
      refine k_aload f107_5 rfl ?_
      refine k_iload f107_6 rfl ?_
      refine k_ia (k := a) (w := nI (g a)) f107_7 hS.a50 rfl (by omega) (by decide) (hg a ha).1 ?_
      refine k_iload f107_8 rfl ?_
      refine e_s (as := [.int (nI st), .int (nI (g a))]) (rest := []) f107_9 rfl rfl rfl (s_has (b := g a) (p := st) (by have := (hg a ha).2; omega) (by omega)) ?_
      refine k_beq f107_12 (fun _ => ?_) (fun h_ => (absurd h_ (hb)))
      refine k_iconst (v := 0) f107_19 rfl ?_
      exact k_iret f107_20 rfl ⟨by rw [show rnd g st 0 a seen = 0 from if_neg hb]; rfl, rfl⟩
  | succ l ih =>
    intro d a seen hl ha hs
    have hga := (hg a ha).2
    rw [rnd_s]
    have lp : ∀ (f i t : Nat), i + f = 10 → zOk x (d + (l + 1) + 1) 107 27 [.ref 50, .int (nI st), .int (nI a), .int (nI seen), .int (nI (l + 1)), .int (nI t), .int (nI i)] [] (I, J, R, G) (fun v m => v = some (.int (nI (foL (fun q t => if (g a).testBit q = true ∧ ¬ seen.testBit q = true then t + rnd g st l q (seen ||| 2 ^ q) else t) i f t))) ∧ m = (I, J, R, G)) := by
      intro f
      induction f with
      | zero =>
        intro i t hi
        have hi : i = 10 := by omega
        subst hi
        refine k_iload f107_27 rfl ?_
        refine k_aload f107_29 rfl ?_
        refine k_alen (v := nI 10) f107_30 hS.a50 rfl rfl ?_
        refine k_ic_ge f107_31 (fun _ => ?_) (fun h_ => absurd (by decide) h_)
        refine k_iload f107_77 rfl ?_
        exact k_iret f107_79 rfl ⟨rfl, rfl⟩
      | succ f ihf =>
        intro i t hi
        rw [foL_s]
        have s9 : seen ||| 2 ^ i < 1024 := or_lt hs (p_1024 (show i < 10 by omega))
        by_cases hb : (g a &&& (1023 ^^^ seen)).testBit i = true
        · refine k_iload f107_27 rfl ?_
          refine k_aload f107_29 rfl ?_
          refine k_alen (v := nI 10) f107_30 hS.a50 rfl rfl ?_
          refine k_ic_ge f107_31 (fun h_ => absurd h_ (nI_ge (b := 10) (by omega) (by omega))) (fun _ => ?_)
          refine k_aload f107_34 rfl ?_
          refine k_iload f107_35 rfl ?_
          refine k_ia (k := a) (w := nI (g a)) f107_36 hS.a50 rfl (by omega) (by decide) (hg a ha).1 ?_
          refine k_iload f107_37 rfl ?_
          refine k_iconst (v := (-1)) f107_38 rfl ?_
          refine k_ixor f107_39 ?_
          refine k_iand f107_40 ?_
          rw [no_eq hga hs]
          refine k_iload f107_41 rfl ?_
          refine e_s (as := [.int (nI i), .int (nI (g a &&& (1023 ^^^ seen)))]) (rest := []) f107_43 rfl rfl rfl (s_has (b := g a &&& (1023 ^^^ seen)) (p := i) (by have := no_lt (y := seen) hga; omega) (by omega)) ?_
          refine k_beq f107_46 (fun h_ => absurd (hb) h_) (fun _ => ?_)
          refine k_iload f107_49 rfl ?_
          refine k_aload f107_51 rfl ?_
          refine k_iload f107_52 rfl ?_
          refine k_iload f107_53 rfl ?_
          refine k_iload f107_55 rfl ?_
          refine k_iconst (v := 1) f107_56 rfl ?_
          refine k_iload f107_57 rfl ?_
          refine k_ishl f107_59 ?_
          refine k_ior f107_60 ?_
          rw [sh_1 i (by omega), nI_or]
          refine k_iload f107_61 rfl ?_
          refine k_iconst (v := 1) f107_63 rfl ?_
          refine k_isub f107_64 ?_
          rw [nI_pred l]
          refine k_calls (as := [.int (nI l), .int (nI (seen ||| 2 ^ i)), .int (nI i), .int (nI st), .ref 50]) (rest := [.int (nI t)]) f107_65 rfl rfl rfl rfl ((by have h := ih d i (seen ||| 2 ^ i) (by omega) (by omega) s9; rw [show d + l + 1 = d + (l + 1) from by omega] at h; exact h)) ?_
          rintro _ _ ⟨rfl, rfl⟩
          refine k_iadd f107_68 ?_
          rw [nI_add]
          refine k_istore (L' := [.ref 50, .int (nI st), .int (nI a), .int (nI seen), .int (nI (l + 1)), .int (nI (t + rnd g st l i (seen ||| 2 ^ i))), .int (nI i)]) f107_69 rfl rfl ?_
          refine k_iinc (w := nI (i + 1)) (L' := [.ref 50, .int (nI st), .int (nI a), .int (nI seen), .int (nI (l + 1)), .int (nI (t + rnd g st l i (seen ||| 2 ^ i))), .int (nI (i + 1))]) f107_71 rfl (nI_1 i) rfl rfl ?_
          refine k_goto f107_74 ?_
          rw [if_pos ((no_bit (by omega)).mp hb)]
          exact ihf (i + 1) _ (by omega)
        · refine k_iload f107_27 rfl ?_
          refine k_aload f107_29 rfl ?_
          refine k_alen (v := nI 10) f107_30 hS.a50 rfl rfl ?_
          refine k_ic_ge f107_31 (fun h_ => absurd h_ (nI_ge (b := 10) (by omega) (by omega))) (fun _ => ?_)
          refine k_aload f107_34 rfl ?_
          refine k_iload f107_35 rfl ?_
          refine k_ia (k := a) (w := nI (g a)) f107_36 hS.a50 rfl (by omega) (by decide) (hg a ha).1 ?_
          refine k_iload f107_37 rfl ?_
          refine k_iconst (v := (-1)) f107_38 rfl ?_
          refine k_ixor f107_39 ?_
          refine k_iand f107_40 ?_
          rw [no_eq hga hs]
          refine k_iload f107_41 rfl ?_
          refine e_s (as := [.int (nI i), .int (nI (g a &&& (1023 ^^^ seen)))]) (rest := []) f107_43 rfl rfl rfl (s_has (b := g a &&& (1023 ^^^ seen)) (p := i) (by have := no_lt (y := seen) hga; omega) (by omega)) ?_
          refine k_beq f107_46 (fun _ => ?_) (fun h_ => (absurd h_ (hb)))
          refine k_iinc (w := nI (i + 1)) (L' := [.ref 50, .int (nI st), .int (nI a), .int (nI seen), .int (nI (l + 1)), .int (nI t), .int (nI (i + 1))]) f107_71 rfl (nI_1 i) rfl rfl ?_
          refine k_goto f107_74 ?_
          rw [if_neg (fun q => hb ((no_bit (by omega)).mpr q))]
          exact ihf (i + 1) _ (by omega)
    refine k_iload f107_0 rfl ?_
    refine k_if_gt f107_2 (fun _ => ?_) (fun h_ => absurd (nI_lt (a := 0) (by omega) (by omega)) h_)
    refine k_iconst (v := 0) f107_21 rfl ?_
    refine k_istore (L' := [.ref 50, .int (nI st), .int (nI a), .int (nI seen), .int (nI (l + 1)), .int (0), zU]) f107_22 rfl rfl ?_
    refine k_iconst (v := 0) f107_24 rfl ?_
    refine k_istore (L' := [.ref 50, .int (nI st), .int (nI a), .int (nI seen), .int (nI (l + 1)), .int (0), .int (0)]) f107_25 rfl rfl ?_
    exact lp 10 0 0 (by omega)
