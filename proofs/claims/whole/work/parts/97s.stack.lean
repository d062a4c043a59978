/-! A TEST HOLDS: the class's method; the reference's stack. -/
theorem s_holds {x : Nat × (Nat → Int32)} {d : Nat} {I : Nat → Nat → Int32} {J : Nat → Nat → Int64} {R : Nat → Nat → Option Nat} {G : zG} {a n t f : Nat} {w : Nat → Int64} (hR : Rs R) (hS : Sh G) (ha : za G a 14 n) (htn : t ≤ n) (hn : n ≤ 400) (hft : f ≤ t) (hw : ∀ j, 1 ≤ j → j ≤ 9 → J 40 j = w (j - 1)) : zOk x (d + 1) 6 0 [.ref 39, .ref a, .int (nI f), .int (nI t), zU, zU, zU] [] (I, J, R, G) (fun v m => v = some (.int (bI (clsT (ruC w (I a) f (t - f) (J 41, 0))))) ∧ ∃ J', m = (I, J', R, G) ∧ ∀ p, p ≠ 41 → J' p = J p) := by
  refine k_iconst (v := 0) f6_0 rfl ?_
  refine k_istore (L' := [.ref 39, .ref a, .int (nI f), .int (nI t), .int (0), zU, zU]) f6_1 rfl rfl ?_
  refine k_iload f6_3 rfl ?_
  refine k_istore (L' := [.ref 39, .ref a, .int (nI f), .int (nI t), .int (0), .int (nI f), zU]) f6_4 rfl rfl ?_
  exact lp_holds hR hS ha htn hn (t - f) f 0 J _ (by omega) (by omega) hw
theorem s_push {x : Nat × (Nat → Int32)} {d : Nat} {I : Nat → Nat → Int32} {J : Nat → Nat → Int64} {R : Nat → Nat → Option Nat} {G : zG} {v : Int64} {top : Nat} (hR : Rs R) (hS : Sh G) (ht : I 51 23 = nI top) (h64 : top < 64) : zRn x d 149 [.ref 51, .long (v)] (I, J, R, G) (none) (z_u I 51 23 (nI (top + 1)), z_u J 60 top v, R, G) := by
  show zOk x d 149 0 [.ref 51, .long (v), zU] [] _ _
  refine k_aload f149_0 rfl ?_
  refine k_getr (q := 60) f149_1 hS.o51 rfl hR.r51_22 ?_
  refine k_aload f149_4 rfl ?_
  refine k_gI (w := nI top) f149_5 hS.o51 rfl ht ?_
  refine k_lload f149_8 rfl ?_
  refine k_ls (k := top) f149_9 hS.a60 rfl (by omega) (by decide) ?_
  refine k_aload f149_10 rfl ?_
  refine k_dup f149_11 ?_
  refine k_gI (w := nI top) f149_12 hS.o51 rfl ht ?_
  refine k_iconst (v := 1) f149_15 rfl ?_
  refine k_iadd f149_16 ?_
  rw [nI_1]
  refine k_putI f149_17 hS.o51 rfl ?_
  exact k_vret f149_20 ⟨rfl, rfl⟩
theorem s_pop {x : Nat × (Nat → Int32)} {d : Nat} {I : Nat → Nat → Int32} {J : Nat → Nat → Int64} {R : Nat → Nat → Option Nat} {G : zG} {top : Nat} (hR : Rs R) (hS : Sh G) (ht : I 51 23 = nI top) (h0 : 0 < top) (h64 : top ≤ 64) : zRn x d 150 [.ref 51] (I, J, R, G) (some (.long (J 60 (top - 1)))) (z_u I 51 23 (nI (top - 1)), J, R, G) := by
  show zOk x d 150 0 [.ref 51] [] _ _
  refine k_aload f150_0 rfl ?_
  refine k_dup f150_1 ?_
  refine k_gI (w := nI top) f150_2 hS.o51 rfl ht ?_
  refine k_iconst (v := 1) f150_5 rfl ?_
  refine k_isub f150_6 ?_
  rw [show (nI top) - (1) = nI (top - 1) from pk_sub (b := 1) (by omega)]
  refine k_putI f150_7 hS.o51 rfl ?_
  refine k_aload f150_10 rfl ?_
  refine k_getr (q := 60) f150_11 hS.o51 rfl hR.r51_22 ?_
  refine k_aload f150_14 rfl ?_
  refine k_gI (w := nI (top - 1)) f150_15 hS.o51 rfl (z_u_same _ _ _ _) ?_
  refine k_la (k := (top - 1)) (w := J 60 (top - 1)) f150_18 hS.a60 rfl (by omega) (by decide) rfl ?_
  exact k_lret f150_19 ⟨rfl, rfl⟩
