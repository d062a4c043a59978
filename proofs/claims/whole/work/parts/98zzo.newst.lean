/-! A NEW STATE. -/
theorem z_r_same {α : Type} (f : Nat → Nat → α) (p : Nat) (g : Nat → α) (k : Nat) : z_r f p g p k = g k := by simp [z_r]
theorem z_r_o {α : Type} (f : Nat → Nat → α) {p q : Nat} (g : Nat → α) (k : Nat) (h : q ≠ p) : z_r f p g q k = f q k := by simp [z_r, h]
theorem zo.new {G : zG} {c : Nat} : zo (zGn G c (z_fn c)) G.2.2.1 c := ⟨Nat.lt_succ_self _, by simp [zGn, z_1], by simp [zGn, z_1]⟩
theorem za.new {G : zG} {c n : Nat} : za (zGn G c n) G.2.2.1 c n := ⟨Nat.lt_succ_self _, by simp [zGn, z_1], by simp [zGn, z_1]⟩
theorem s_coin0 {x : Nat × (Nat → Int32)} {d p : Nat} {m : zM} : zRn x d 8 [.ref p] m none m := by
  show zOk x d 8 0 [.ref p] [] _ _
  refine k_aload f8_0 rfl ?_
  refine k_objinit f8_1 rfl ?_
  exact k_vret f8_4 ⟨rfl, rfl⟩
def NS (I0 : Nat → Nat → Int32) (R0 : Nat → Nat → Option Nat) (G0 : zG) (st pl i : Nat) (I : Nat → Nat → Int32) (R : Nat → Nat → Option Nat) (G : zG) : Prop :=
  G.2.2.1 = st + 2 + i ∧ G.2.2.2 = G0.2.2.2 + 8 + 7 * i ∧ zo G st 6 ∧ R st 0 = some pl ∧ R st 5 = some (st + 1) ∧ za G (st + 1) 17 8 ∧ (∀ c, c < i → R (st + 1) c = some (st + 2 + c) ∧ zo G (st + 2 + c) 1) ∧
  (∀ p k, p < st → I p k = I0 p k) ∧ (∀ p k, p < st → R p k = R0 p k) ∧ Gk G0 G
theorem lp_newS {x : Nat × (Nat → Int32)} {d : Nat} {I0 : Nat → Nat → Int32} {R0 : Nat → Nat → Option Nat} {G0 : zG} {st pl : Nat} (hst : st < 500000) (hT : G0.2.2.2 < 7000000) : ∀ (f i : Nat) (I : Nat → Nat → Int32) (J : Nat → Nat → Int64) (R : Nat → Nat → Option Nat) (G : zG), i + f = 8 → NS I0 R0 G0 st pl i I R G →
    zOk x (d + 1) 34 25 [.ref st, .ref pl, .int (nI i)] [] (I, J, R, G) (fun v m => v = none ∧ ∃ I' J' R' G', m = (I', J', R', G') ∧ NS I0 R0 G0 st pl 8 I' R' G') := by
  intro f
  induction f with
  | zero =>
    intro i I J R G hi hN
    have hi : i = 8 := by omega
    subst hi
    refine k_iload f34_25 rfl ?_
    refine k_iconst (v := 8) f34_26 rfl ?_
    refine k_ic_ge f34_28 (fun _ => ?_) (fun h_ => absurd (by decide) h_)
    exact k_vret f34_50 ⟨rfl, I, J, R, G, rfl, hN⟩
  | succ f ih =>
    intro i I J R G hi hN
    obtain ⟨n1, n2, n3, n4, n5, n6, n7, n8, n9, n10⟩ := hN
    refine k_iload f34_25 rfl ?_
    refine k_iconst (v := 8) f34_26 rfl ?_
    refine k_ic_ge f34_28 (fun h_ => absurd h_ (nI_ge (b := 8) (by omega) (by omega))) (fun _ => ?_)
    refine k_aload f34_31 rfl ?_
    refine k_getr (q := st + 1) f34_32 n3 rfl n5 ?_
    refine k_iload f34_35 rfl ?_
    refine k_new f34_36 rfl ⟨by omega, by rw [show z_fn 1 = 7 from rfl]; omega⟩ ?_
    refine k_dup f34_39 ?_
    refine e_i (as := []) (rest := [.ref G.2.2.1, .int (nI i), .ref (st + 1)]) f34_40 rfl rfl rfl s_coin0 ?_
    refine k_aast (k := i) f34_43 (n6.keep (Gk.new _ _)) zo.new rfl (vp_in_nI (by omega) (by omega)) (nI_clamp (by omega)) ?_
    refine k_iinc (w := nI (i + 1)) (L' := [.ref st, .ref pl, .int (nI (i + 1))]) f34_44 rfl (nI_1 i) rfl rfl ?_
    refine k_goto f34_47 ?_
    refine ih (i + 1) _ _ _ _ (by omega) ⟨?_, ?_, n3.keep (Gk.new _ _), ?_, ?_, n6.keep (Gk.new _ _), fun c hc => ?_, fun p k hp => ?_, fun p k hp => ?_, n10.trans (Gk.new _ _)⟩
    · show G.2.2.1 + 1 = _
      omega
    · show G.2.2.2 + z_fn 1 = _
      rw [show z_fn 1 = 7 from rfl]
      omega
    · rw [z_u_p _ _ _ _ (by omega), z_r_o _ _ _ (by omega)]
      exact n4
    · rw [z_u_p _ _ _ _ (by omega), z_r_o _ _ _ (by omega)]
      exact n5
    · by_cases e : c = i
      · subst e
        rw [z_u_same, n1]
        have z : zo (zGn G 1 (z_fn 1)) G.2.2.1 1 := zo.new
        rw [n1] at z
        exact ⟨rfl, z⟩
      · rw [z_u_k _ _ _ e, z_r_o _ _ _ (by omega)]
        exact ⟨(n7 c (by omega)).1, (n7 c (by omega)).2.keep (Gk.new _ _)⟩
    · rw [z_r_o _ _ _ (by omega)]
      exact n8 p k hp
    · rw [z_u_p _ _ _ _ (by omega), z_r_o _ _ _ (by omega)]
      exact n9 p k hp
theorem q_newS {x : Nat × (Nat → Int32)} {d : Nat} {I : Nat → Nat → Int32} {J : Nat → Nat → Int64} {R : Nat → Nat → Option Nat} {G : zG} {st pl : Nat} (hst : st < 500000) (hT : G.2.2.2 < 7000000) (hG : G.2.2.1 = st + 1) (h6 : zo G st 6) :
    zOk x (d + 1) 34 0 [.ref st, .ref pl, zU] [] (I, J, R, G) (fun v m => v = none ∧ ∃ I' J' R' G', m = (I', J', R', G') ∧ NS I R G st pl 8 I' R' G') := by
  refine k_aload f34_0 rfl ?_
  refine k_objinit f34_1 rfl ?_
  refine k_aload f34_4 rfl ?_
  refine k_aload f34_5 rfl ?_
  refine k_putR f34_6 h6 rfl ?_
  refine k_aload f34_9 rfl ?_
  refine k_iconst (v := (-1)) f34_10 rfl ?_
  refine k_putI f34_11 h6 rfl ?_
  refine k_aload f34_14 rfl ?_
  refine k_iconst (v := 8) f34_15 rfl ?_
  refine k_newq (N := 8) f34_17 (by decide) (by decide) (by decide) rfl ⟨by omega, by omega⟩ ?_
  refine k_putR f34_20 (h6.keep (Gk.new _ _)) rfl ?_
  refine k_iconst (v := 0) f34_23 rfl ?_
  refine k_istore (L' := [.ref st, .ref pl, .int (0)]) f34_24 rfl rfl ?_
  refine lp_newS (I0 := I) (R0 := R) (G0 := G) hst hT 8 0 _ _ _ _ (by omega) ⟨?_, ?_, h6.keep (Gk.new _ _), ?_, ?_, ?_, fun c hc => absurd hc (Nat.not_lt_zero _), fun p k hp => ?_, fun p k hp => ?_, Gk.new _ _⟩
  · show G.2.2.1 + 1 = _
    omega
  · show G.2.2.2 + 8 = _
    omega
  · rw [z_u_k _ _ _ (by decide), z_r_o _ _ _ (by omega), z_u_same]
  · rw [z_u_same, hG]
  · have z : za (zGn G 17 8) G.2.2.1 17 8 := za.new
    rw [hG] at z
    exact z
  · rw [z_r_o _ _ _ (by omega), z_u_p _ _ _ _ (by omega)]
  · rw [z_u_p _ _ _ _ (by omega), z_r_o _ _ _ (by omega), z_u_p _ _ _ _ (by omega)]
