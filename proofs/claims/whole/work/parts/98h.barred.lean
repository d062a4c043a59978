/-! BARRED, on both sides, by a RULE in force. -/
theorem s_isBarred1 {x : Nat × (Nat → Int32)} {d : Nat} {I : Nat → Nat → Int32} {J : Nat → Nat → Int64} {R : Nat → Nat → Option Nat} {G : zG} {t r : Nat} {w : Nat → Int64} (hR : Rs R) (hS : Sh G) (ht6 : t < 6) (hru : RuR I R G t r) (hw : ∀ j, j < 9 → J 61 j = w j) : zOk x (d + 3) 167 0 [.ref 51, .int (nI t)] [] (I, J, R, G) (fun v mm => v = some (.int (bI (soB I t w 1 = true))) ∧ ∃ I' J', mm = (I', J', R, G) ∧ (∀ p k, ¬ (p = 51 ∧ k = 23) → I' p k = I p k) ∧ ∀ p, p ≠ 60 → J' p = J p) := by
  refine k_iload f167_0 rfl ?_
  refine k_if_lt f167_1 (fun h_ => absurd h_ (nI_pos (by omega))) (fun _ => ?_)
  refine k_aload f167_4 rfl ?_
  refine k_iload f167_5 rfl ?_
  refine k_iconst (v := 1) f167_6 rfl ?_
  refine k_callv (as := [.int (1), .int (nI t)]) (rest := []) f167_7 hS.o51 rfl rfl rfl rfl (s_isSo (kd := 1) (w := w) hR hS ht6 hru (by decide) hw) ?_
  rintro _ _ ⟨rfl, I1, J1, rfl, hI1, hJ1⟩
  refine k_beq f167_10 (fun g0 => ?_) (fun g0 => ?_)
  · refine k_iconst (v := 0) f167_17 rfl ?_
    exact k_iret f167_18 (by decide) ⟨bI_f g0, I1, J1, rfl, hI1, hJ1⟩
  · refine k_iconst (v := 1) f167_13 rfl ?_
    refine k_goto f167_14 ?_
    exact k_iret f167_18 (by decide) ⟨bI_t g0, I1, J1, rfl, hI1, hJ1⟩
theorem s_isBarred0 {x : Nat × (Nat → Int32)} {d : Nat} {I : Nat → Nat → Int32} {J : Nat → Nat → Int64} {R : Nat → Nat → Option Nat} {G : zG} : zRn x d 167 [.ref 51, .int ((-1))] (I, J, R, G) (some (.int (0))) (I, J, R, G) := by
  show zOk x d 167 0 [.ref 51, .int ((-1))] [] _ _
  refine k_iload f167_0 rfl ?_
  refine k_if_lt f167_1 (fun _ => ?_) (fun h_ => absurd (by decide) h_)
  refine k_iconst (v := 0) f167_17 rfl ?_
  exact k_iret f167_18 (by decide) ⟨rfl, rfl⟩
