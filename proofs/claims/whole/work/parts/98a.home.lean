/-! A COIN brought home: the class. -/
theorem s_bringHome {x : Nat × (Nat → Int32)} {d : Nat} {I : Nat → Nat → Int32} {J : Nat → Nat → Int64} {R : Nat → Nat → Option Nat} {G : zG} {st q : Nat} {dy ho hm hc : Int32} (hst : zo G st 6) (hq : zo G q 1) (hne : st ≠ q) (g1 : I st 1 = dy) (g2 : I st 2 = hc) (h1 : I q 1 = ho) (h5 : I q 5 = hm) : zRn x (d + 1) 44 [.ref st, .ref q] (I, J, R, G) (none) (z_u (z_u (z_u (z_u (z_u I q 2 dy) q 3 ((1) <<< ((ho) &&& 31))) q 4 0) q 5 ((hm) + (1))) st 2 ((hc) + (1)), J, R, G) := by
  show zOk x (d + 1) 44 0 [.ref st, .ref q] [] _ _
  refine k_aload f44_0 rfl ?_
  refine k_aload f44_1 rfl ?_
  refine k_gI (w := dy) f44_2 hst rfl g1 ?_
  refine e_v (as := [.int (dy)]) (rest := []) f44_5 hq rfl rfl rfl (s_stampAnew hq h1) ?_
  refine k_aload f44_8 rfl ?_
  refine k_dup f44_9 ?_
  refine k_gI (w := hm) f44_10 hq rfl (Eq.trans (z_u_k _ _ _ (by decide)) (Eq.trans (z_u_k _ _ _ (by decide)) (Eq.trans (z_u_k _ _ _ (by decide)) h5))) ?_
  refine k_iconst (v := 1) f44_13 rfl ?_
  refine k_iadd f44_14 ?_
  refine k_putI f44_15 hq rfl ?_
  refine k_aload f44_18 rfl ?_
  refine k_dup f44_19 ?_
  refine k_gI (w := hc) f44_20 hst rfl (Eq.trans (z_u_p _ _ _ _ hne) (Eq.trans (z_u_p _ _ _ _ hne) (Eq.trans (z_u_p _ _ _ _ hne) (Eq.trans (z_u_p _ _ _ _ hne) g2)))) ?_
  refine k_iconst (v := 1) f44_23 rfl ?_
  refine k_iadd f44_24 ?_
  refine k_putI f44_25 hst rfl ?_
  exact k_vret f44_28 ⟨rfl, rfl⟩
