/-! PAIRS of calls, the plain ones. -/
theorem Op.of2 {Inv : Nat → zM → Prop} {x : Nat × (Nat → Int32)} {yc ym : Nat} {as : List Value} (h : ∀ (j : Nat) (I : Nat → Nat → Int32) (J : Nat → Nat → Int64) (R : Nat → Nat → Option Nat) (G : zG), j < 512 → Inv j (I, J, R, G) → zOk x 399 yc 0 (z_l0 (.ref 0 :: as) (z_ml.getD yc 0)) [] (I, J, R, G) (fun v m => ∃ w, v = some (.int w) ∧ zOk x 399 ym 0 (z_l0 (.ref 51 :: as) (z_ml.getD ym 0)) [] m (fun v2 m2 => v2 = some (.int w) ∧ Inv (j + 1) m2))) : Op Inv x yc ym as := by
  intro j m hj hI
  obtain ⟨I, J, R, G⟩ := m
  obtain ⟨v, m1, e1, w, rfl, h2⟩ := zRn_of (h j I J R G hj hI)
  obtain ⟨v2, m2, e2, rfl, hI2⟩ := zRn_of h2
  exact ⟨w, m1, m2, e1, e2, hI2⟩
theorem z_u_no {α : Type} (f : Nat → Nat → α) {p k q j : Nat} (v : α) (h : ¬ (q = p ∧ j = k)) : z_u f p k v q j = f q j := if_neg h
def bI (P : Prop) [Decidable P] : Int32 := if P then 1 else 0
theorem bI_nar (P : Prop) [Decidable P] : z_nar 1 (bI P) = bI P := by
  unfold bI
  by_cases h : P
  · rw [if_pos h]; decide
  · rw [if_neg h]; decide
section
variable {x : Nat × (Nat → Int32)} {d Y pc np tg : Nat} {L S : List Value} {m : zM} {Q : Option Value → zM → Prop}
theorem k_beq {P : Prop} [Decidable P] {o : Int} (hf : z_fetch Y pc = some (.ifCond .eq o, np, tg)) (kt : ¬ P → zOk x d Y tg L S m Q) (kf : P → zOk x d Y np L S m Q) : zOk x d Y pc L (.int (bI P) :: S) m Q := by
  refine k_if_eq hf (fun h => kt fun p => ?_) (fun h => kf (Classical.byContradiction fun p => ?_))
  · rw [bI, if_pos p] at h; exact absurd h (by decide)
  · rw [bI, if_neg p] at h; exact h rfl
theorem k_bne {P : Prop} [Decidable P] {o : Int} (hf : z_fetch Y pc = some (.ifCond .ne o, np, tg)) (kt : P → zOk x d Y tg L S m Q) (kf : ¬ P → zOk x d Y np L S m Q) : zOk x d Y pc L (.int (bI P) :: S) m Q := by
  refine k_if_ne hf (fun h => kt (Classical.byContradiction fun p => ?_)) (fun h => kf fun p => ?_)
  · rw [bI, if_neg p] at h; exact h rfl
  · rw [bI, if_pos p] at h; exact absurd (by decide) h
end
theorem inv_end {j : Nat} {I : Nat → Nat → Int32} {J : Nat → Nat → Int64} {R : Nat → Nat → Option Nat} {G : zG} {n : Int32} {I' : Nat → Nat → Int32} (hI : Inv j (I, J, R, G)) (h0 : ¬ n < 0) (h1 : n ≤ I 9 1) (e : I' = z_u (z_u I 9 1 n) 51 1 n) : Inv (j + 1) (I', J, R, G) := by
  subst e
  obtain ⟨t1, t2, t3⟩ := hI.2.2.2.2.1
  have n70 : 71 ≤ G.2.2.1 := hI.1.2
  have h3 : G.2.2.1 ≤ 71 + 20 * j := hI.2.2.1
  have h4 : G.2.2.2 ≤ 6106 + 1000 * j := hI.2.2.2.1
  have e62 : z_u (z_u I 9 1 n) 51 1 n 62 = I 62 := funext fun k => (z_u_p _ _ _ _ (by decide)).trans (z_u_p _ _ _ _ (by decide))
  refine inv_of hI (by omega) (by omega) Gk.rfl (fun p k hp hs => ?_) KR.rfl ⟨?_, ?_, fun k hk => ?_⟩ ?_ ?_
  · unfold sc1 at hs
    exact (z_u_no _ _ (by omega)).trans (z_u_no _ _ (by omega))
  · rw [show z_u (z_u I 9 1 n) 51 1 n 9 1 = n from (z_u_p _ _ _ _ (by decide)).trans (z_u_same _ _ _ _)]
    obtain ⟨a, ha, e⟩ := nI_of h0
    have t1 : Rg (I 9 1) 401 := t1
    obtain ⟨b, hb, e2, _⟩ := t1.ex
    rw [e, e2, nI_leI ha (by omega)] at h1
    rw [e]
    exact Rg.of (by omega) (by omega)
  · exact (z_u_same _ _ _ _).trans (((z_u_p _ _ _ _ (by decide)).trans (z_u_same _ _ _ _)).symm)
  · rw [show z_u (z_u I 9 1 n) 51 1 n 10 k = I 10 k from (z_u_p _ _ _ _ (by decide)).trans (z_u_p _ _ _ _ (by decide)), show z_u (z_u I 9 1 n) 51 1 n 52 k = I 52 k from (z_u_p _ _ _ _ (by decide)).trans (z_u_p _ _ _ _ (by decide))]
    exact t3 k hk
  · obtain ⟨pl, hs⟩ : ∃ pl, StR I R G 17 pl (I 62) := hI.2.2.2.2.2.2.1
    refine ⟨pl, ?_⟩
    rw [e62]
    have ho : SOk (I 62) (cl (I 0 4)) := hI.2.2.2.2.2.2.2.1
    have hpl := hs.2.2.1.1
    exact StR.keep hs (Nat.le_of_lt_succ ho.2.1.2) Gk.rfl (fun p k hp hq => (z_u_p _ _ _ _ (by omega)).trans (z_u_p _ _ _ _ (by omega))) (fun p k hp hq => rfl)
  · rw [e62]
    exact hI.2.2.2.2.2.2.2.1
theorem op_end {x : Nat × (Nat → Int32)} (n : Int32) : Op Inv x 72 115 [.int n] := by
  refine Op.of2 fun j I J R G hj hI => ?_
  have hS : Sh G := hI.1
  have hR : Rs R := hI.2.1
  have hT1 : Rg (I 9 1) 401 := hI.2.2.2.2.1.1
  have hT2 : I 51 1 = I 9 1 := hI.2.2.2.2.1.2.1
  obtain ⟨pl, hst⟩ : ∃ pl, StR I R G 17 pl (I 62) := hI.2.2.2.2.2.2.1
  have hO : SOk (I 62) (cl (I 0 4)) := hI.2.2.2.2.2.2.2.1
  show zOk x 399 72 0 [.ref 0, .int (n)] [] _ _
  refine k_iload f72_0 rfl ?_
  refine k_if_lt f72_1 (fun g0 => ?_) (fun g0 => ?_)
  · refine k_iconst (v := (-1)) f72_15 rfl ?_
    refine k_iret f72_16 rfl ⟨_, rfl, ?_⟩
    show zOk x 399 115 0 [.ref 51, .int (n)] [] _ _
    refine k_iload f115_0 rfl ?_
    refine k_if_lt f115_1 (fun _ => ?_) (fun h_ => absurd (g0) h_)
    refine k_iconst (v := (-1)) f115_12 rfl ?_
    refine k_iret f115_13 rfl ⟨rfl, ?_⟩
    exact inv_q hI (by omega) Kq.rfl KS.rfl
  · refine k_iload f72_4 rfl ?_
    refine k_aload f72_5 rfl ?_
    refine k_getr (q := 9) f72_6 hS.o0 rfl hR.r0_0 ?_
    refine k_gI (w := I 9 1) f72_9 hS.o9 rfl rfl ?_
    refine k_ic_le f72_12 (fun g1 => ?_) (fun g1 => ?_)
    · refine k_aload f72_17 rfl ?_
      refine k_getr (q := 9) f72_18 hS.o0 rfl hR.r0_0 ?_
      refine k_iload f72_21 rfl ?_
      refine k_putI f72_22 hS.o9 rfl ?_
      refine k_iload f72_25 rfl ?_
      refine k_iret f72_26 rfl ⟨_, rfl, ?_⟩
      show zOk x 399 115 0 [.ref 51, .int (n)] [] _ _
      refine k_iload f115_0 rfl ?_
      refine k_if_lt f115_1 (fun h_ => absurd h_ (g0)) (fun _ => ?_)
      refine k_iload f115_4 rfl ?_
      refine k_aload f115_5 rfl ?_
      refine k_gI (w := I 9 1) f115_6 hS.o51 rfl (Eq.trans (z_u_p _ _ _ _ (by decide)) hT2) ?_
      refine k_ic_le f115_9 (fun _ => ?_) (fun h_ => absurd (g1) h_)
      refine k_aload f115_14 rfl ?_
      refine k_iload f115_15 rfl ?_
      refine k_putI f115_16 hS.o51 rfl ?_
      refine k_iload f115_19 rfl ?_
      refine k_iret f115_20 rfl ⟨rfl, ?_⟩
      exact inv_end hI g0 g1 rfl
    · refine k_iconst (v := (-1)) f72_15 rfl ?_
      refine k_iret f72_16 rfl ⟨_, rfl, ?_⟩
      show zOk x 399 115 0 [.ref 51, .int (n)] [] _ _
      refine k_iload f115_0 rfl ?_
      refine k_if_lt f115_1 (fun h_ => absurd h_ (g0)) (fun _ => ?_)
      refine k_iload f115_4 rfl ?_
      refine k_aload f115_5 rfl ?_
      refine k_gI (w := I 9 1) f115_6 hS.o51 rfl hT2 ?_
      refine k_ic_le f115_9 (fun h_ => absurd h_ (g1)) (fun _ => ?_)
      refine k_iconst (v := (-1)) f115_12 rfl ?_
      refine k_iret f115_13 rfl ⟨rfl, ?_⟩
      exact inv_q hI (by omega) Kq.rfl KS.rfl
