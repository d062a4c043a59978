/-! THE PAIR back. -/
theorem StR.cg {I : Nat → Nat → Int32} {R : Nat → Nat → Option Nat} {G : zG} {st pl : Nat} {s s' : Nat → Int32} (h : StR I R G st pl s) (hc : cl (s 1) ≤ 8) (hm : cl (s 2) ≤ 25) (e : ∀ k, k < 139 → s' k = s k) : StR I R G st pl s' := by
  obtain ⟨a, b, c, ⟨d1, d2, d3, d4, d5⟩, e1, e2, e3, e4, e5⟩ := h
  refine ⟨a, b, c, ⟨by rw [e _ (by omega)]; exact d1, by rw [e _ (by omega)]; exact d2, by rw [e _ (by omega)]; exact d3, by rw [e _ (by omega)]; exact d4, fun m hm' => ?_⟩, by rw [e _ (by omega)]; exact e1, by rw [e _ (by omega)]; exact e2, by rw [e _ (by omega)]; exact e3, by rw [e _ (by omega)]; exact e4, fun c hc' => ?_⟩
  · rw [e 2 (by omega)] at hm' ⊢
    have m25 : m < 25 := by omega
    obtain ⟨g1, g2, g3, g4⟩ := d5 m hm'
    refine ⟨by rw [e _ (by omega)]; exact g1, by rw [e _ (by omega)]; exact g2, by rw [e _ (by omega)]; exact g3, ?_⟩
    rw [ordK_congr (dy' := fun m => s (56 + 3 * m)) fun k hk => e _ (by omega)]
    exact g4
  · rw [e 1 (by omega)] at hc'
    obtain ⟨g0, g1, g2, g3, g4, g5, g6⟩ := e5 c hc'
    exact ⟨by rw [e _ (by omega)]; exact g0, by rw [e _ (by omega)]; exact g1, by rw [e _ (by omega)]; exact g2, by rw [e _ (by omega)]; exact g3, by rw [e _ (by omega)]; exact g4, by rw [e _ (by omega)]; exact g5, by rw [e _ (by omega)]; exact g6⟩
theorem SOk.cg {s s' : Nat → Int32} {rn : Nat} (h : SOk s rn) (e : ∀ k, k < 139 → s' k = s k) : SOk s' rn := by
  have c8 := h.2.1.2
  refine h.congr (e _ (by omega)) (e _ (by omega)) (e _ (by omega)) (e _ (by omega)) (by rw [e _ (by omega)]; exact h.2.2.2.1) (by rw [e _ (by omega)]; exact h.2.2.2.2.1) (by rw [e _ (by omega)]; exact h.2.2.2.2.2.1) (fun c hc => ?_) (fun i _ _ => e _ (by omega))
  exact (h.2.2.2.2.2.2.2.1 c hc).congr (e _ (by omega)) (fun k hk => e _ (by omega)) (e _ (by omega)) (by rw [e _ (by omega)]; exact Nat.le_refl _)
theorem StR.copy {I I' : Nat → Nat → Int32} {R : Nat → Nat → Option Nat} {G : zG} {st su pl n : Nat} {s : Nat → Int32} (h : StR I R G su pl s) (h1 : StS R G st) (hs : st ≠ pl) (hn : s 1 = nI n) (hn8 : n ≤ 8) (hp : pl + 8 ≤ st ∨ st + 10 ≤ pl) (hd : st + 10 ≤ su ∨ su + 10 ≤ st) (hH : cpH (cpI I st su) I' st su n) : StR I' (z_u R st 0 (some pl)) G st pl s := by
  obtain ⟨a, b, ⟨c0, c1, c2, c3, c4⟩, ⟨d1, d2, d3, d4, d5⟩, e1, e2, e3, e4, e5⟩ := h
  have ncl : cl (s 1) = n := by rw [hn, cl_nI (by omega)]
  have ot : ∀ p k, ¬ (st ≤ p ∧ p < st + 10) → I' p k = I p k := fun p k hq => (hH.1 p k (by omega)).trans (cpI_o _ _ (by omega))
  have f1 : I' st 1 = I su 1 := (hH.1 _ _ (by omega)).trans (by simp [cpI, z_u])
  have f2 : I' st 2 = I su 2 := (hH.1 _ _ (by omega)).trans (by simp [cpI, z_u])
  have f3 : I' st 3 = I su 3 := (hH.1 _ _ (by omega)).trans (by simp [cpI, z_u])
  have f4 : I' st 4 = I su 4 := (hH.1 _ _ (by omega)).trans (by simp [cpI, z_u])
  refine ⟨h1.put (by omega), z_u_same _ _ _ _, ⟨c0, c1, fun i hi => (z_u_p _ _ _ _ (by omega)).trans (c2 i hi), c3, c4⟩, ⟨(ot _ _ (by omega)).trans d1, (ot _ _ (by omega)).trans d2, (ot _ _ (by omega)).trans d3, (ot _ _ (by omega)).trans d4, fun m hm => ?_⟩, f1.trans e1, f2.trans e2, f3.trans e3, f4.trans e4, fun c hc => ?_⟩
  · obtain ⟨g1, g2, g3, g4⟩ := d5 m hm
    exact ⟨(ot _ _ (by omega)).trans g1, (ot _ _ (by omega)).trans g2, (ot _ _ (by omega)).trans g3, (ot _ _ (by omega)).trans g4⟩
  · rw [ncl] at hc
    have g := e5 c (by omega)
    have t : ∀ k, k < 7 → I' (st + 2 + c) k = I (su + 2 + c) k := fun k hk => (hH.2 c k hc hk).trans (cpI_o _ _ (by omega))
    exact ⟨(t 0 (by omega)).trans g.1, (t 1 (by omega)).trans g.2.1, (t 2 (by omega)).trans g.2.2.1, (t 3 (by omega)).trans g.2.2.2.1, (t 4 (by omega)).trans g.2.2.2.2.1, (t 5 (by omega)).trans g.2.2.2.2.2.1, (t 6 (by omega)).trans g.2.2.2.2.2.2⟩
/-- the reference's rows: row q from oq on is row p from op on, so far as i -/
def rwH (I0 I1 : Nat → Nat → Int32) (q oq p op i : Nat) : Prop := (∀ r k, ¬ (r = q ∧ oq ≤ k ∧ k < oq + i) → I1 r k = I0 r k) ∧ ∀ k, k < i → I1 q (oq + k) = I0 p (op + k)
theorem rwH_s {I0 I1 : Nat → Nat → Int32} {q oq p op i : Nat} (h : rwH I0 I1 q oq p op i) (hpq : p ≠ q) : rwH I0 (z_u I1 q (oq + i) (I1 p (op + i))) q oq p op (i + 1) := by
  refine ⟨fun r k hr => ?_, fun k hk => ?_⟩
  · rw [z_u_no _ _ (by omega)]
    exact h.1 r k (by omega)
  · by_cases e : k = i
    · subst e
      rw [z_u_same]
      exact h.1 _ _ (by omega)
    · rw [z_u_k _ _ _ (by omega)]
      exact h.2 k (by omega)
theorem ix_i (t i : Nat) : nI (139 * t + i) = ((139) * (nI t)) + (nI i) := by
  rw [← nI_add, ← pk_mul]; rfl
theorem rwH_0 (I0 : Nat → Nat → Int32) (q oq p op : Nat) : rwH I0 I0 q oq p op 0 := ⟨fun _ _ _ => rfl, fun _ h => absurd h (Nat.not_lt_zero _)⟩
theorem lp_back {x : Nat × (Nat → Int32)} {d : Nat} {J : Nat → Nat → Int64} {R : Nat → Nat → Option Nat} {G : zG} {I0 : Nat → Nat → Int32} {t : Nat} (hR : Rs R) (hS : Sh G) (ht : t < 4) : ∀ (f i : Nat) (I : Nat → Nat → Int32), i + f = 139 → rwH I0 I 62 0 69 (139 * t) i → zOk x d 204 25 [.ref 51, .int (nI t), .int (nI i)] [] (I, J, R, G) (fun v m => v = some (.int (I0 69 (139 * t + 3))) ∧ ∃ I', m = (I', J, R, G) ∧ rwH I0 I' 62 0 69 (139 * t) 139) := by
  intro f
  induction f with
  | zero =>
    intro i I hi hH
    have hi : i = 139 := by omega
    subst hi
    refine k_iload f204_25 rfl ?_
    refine k_iconst (v := 139) f204_26 rfl ?_
    refine k_ic_ge f204_29 (fun _ => ?_) (fun h_ => absurd (by decide) h_)
    refine k_aload f204_56 rfl ?_
    refine k_getr (q := 62) f204_57 hS.o51 rfl hR.r51_25 ?_
    refine k_iconst (v := 3) f204_60 rfl ?_
    refine k_ia (k := 3) (w := I 62 3) f204_61 hS.a62 rfl (by decide) (by decide) rfl ?_
    exact k_iret f204_62 rfl ⟨congrArg (fun t => some (Value.int t)) (by have q := hH.2 3 (by omega); rw [Nat.zero_add] at q; exact q), I, rfl, hH⟩
  | succ f ih =>
    intro i I hi hH
    refine k_iload f204_25 rfl ?_
    refine k_iconst (v := 139) f204_26 rfl ?_
    refine k_ic_ge f204_29 (fun h_ => absurd h_ (nI_ge (b := 139) (by omega) (by omega))) (fun _ => ?_)
    refine k_aload f204_32 rfl ?_
    refine k_getr (q := 62) f204_33 hS.o51 rfl hR.r51_25 ?_
    refine k_iload f204_36 rfl ?_
    refine k_aload f204_37 rfl ?_
    refine k_getr (q := 69) f204_38 hS.o51 rfl hR.r51_37 ?_
    refine k_iconst (v := 139) f204_41 rfl ?_
    refine k_iload f204_44 rfl ?_
    refine k_imul f204_45 ?_
    refine k_iload f204_46 rfl ?_
    refine k_iadd f204_47 ?_
    refine k_ia (k := 139 * t + i) (w := I 69 (139 * t + i)) f204_48 hS.a69 (ix_i t i) (by omega) (by decide) rfl ?_
    refine k_is (k := i) f204_49 hS.a62 rfl (by omega) (by decide) ?_
    refine k_iinc (w := nI (i + 1)) (L' := [.ref 51, .int (nI t), .int (nI (i + 1))]) f204_50 rfl (nI_1 i) rfl rfl ?_
    refine k_goto f204_53 ?_
    have hs := rwH_s hH (by decide)
    rw [Nat.zero_add] at hs
    exact ih (i + 1) _ (by omega) hs
theorem k4_n {k : Int32} (h : nI 4 ≤ k) : ¬ k < 0 := fun q => absurd (Int32.lt_of_le_of_lt h q) (by decide)
theorem k4_3 {k : Int32} (h : nI 4 ≤ k) : 3 < k := Int32.lt_of_lt_of_le (by decide) h
theorem inv_back {j t st pl : Nat} {I I1 I3 : Nat → Nat → Int32} {J : Nat → Nat → Int64} {R : Nat → Nat → Option Nat} {G : zG} (hI : Inv j (I, J, R, G)) (y3 : 71 ≤ st) (y4 : StR I R G st pl (imS I t)) (y5 : SOk (imS I t) (cl (I 0 4))) (hH : cpH (cpI I 17 st) I1 17 st (cl (imS I t 1))) (hW : rwH I1 I3 62 0 69 (139 * t) 139) : Inv (j + 1) (I3, J, z_u R 17 0 (some pl), G) := by
  obtain ⟨pl0, hst⟩ : ∃ pl, StR I R G 17 pl (I 62) := hI.2.2.2.2.2.2.1
  have hpl := y4.2.2.1.1
  have n8 : cl (imS I t 1) ≤ 8 := Nat.le_of_lt_succ y5.2.1.2
  have e62 : ∀ k, k < 139 → I3 62 k = imS I t k := fun k hk => by
    have q := hW.2 k hk
    rw [Nat.zero_add] at q
    rw [q, hH.1 _ _ (by omega), cpI_o _ _ (by decide)]
    rfl
  have a := y4.copy (st := 17) hst.1 (by omega) y5.2.1.1 n8 (by omega) (by omega) hH
  have b : StR I3 (z_u R 17 0 (some pl)) G 17 pl (imS I t) := a.keep n8 Gk.rfl (fun p k hp hq => hW.1 p k (by omega)) (fun p k hp hq => rfl)
  refine inv_st hI (by omega) (fun p k hp hs => ?_) (fun p k hp h1 h2 => z_u_no _ _ (by omega)) ⟨pl, b.cg n8 (Nat.le_of_lt y5.2.2.1.2) e62⟩ (y5.cg e62)
  unfold sc2 at hs
  rw [hW.1 p k (by omega), hH.1 p k (by omega), cpI_o _ _ (by omega)]
theorem rg_01 {v : Int32} (h : Rg v 2) : v = 0 ∨ v = 1 := by
  by_cases q : v = 0
  · exact Or.inl q
  · exact Or.inr (rg2_1 h q)
theorem op_back {x : Nat × (Nat → Int32)} (k : Int32) : Op Inv x 97 204 [.int k] := by
  refine Op.of2 fun j I J R G hj hI => ?_
  have hS : Sh G := hI.1
  have hR : Rs R := hI.2.1
  have hT1 : Rg (I 9 1) 401 := hI.2.2.2.2.1.1
  have hT2 : I 51 1 = I 9 1 := hI.2.2.2.2.1.2.1
  have hN1 : Rg (I 0 4) 7 := hI.2.2.2.2.2.1.1
  have hN2 : I 51 2 = I 0 4 := hI.2.2.2.2.2.1.2.1
  have hN3 : ∀ t, t < cl (I 0 4) → ∃ r, R 16 t = some r ∧ RuR I R G t r := hI.2.2.2.2.2.1.2.2
  obtain ⟨pl, hst⟩ : ∃ pl, StR I R G 17 pl (I 62) := hI.2.2.2.2.2.2.1
  have hO : SOk (I 62) (cl (I 0 4)) := hI.2.2.2.2.2.2.2.1
  have hIm : ∀ k, k < 4 → ImN I R k ∨ ImY I R G (cl (I 0 4)) k := hI.2.2.2.2.2.2.2.2.1
  rcases pk_ix k (n := 4) (by omega) with hk | hk | ⟨t, ht, rfl⟩
  · show zOk x 399 97 0 [.ref 0, .int (k)] [] _ _
    refine k_iload f97_0 rfl ?_
    refine k_if_lt f97_1 (fun _ => ?_) (fun h_ => absurd (hk) h_)
    refine k_iconst (v := (-1)) f97_18 rfl ?_
    refine k_iret f97_19 rfl ⟨_, rfl, ?_⟩
    show zOk x 399 204 0 [.ref 51, .int (k), zU] [] _ _
    refine k_iload f204_0 rfl ?_
    refine k_i2l f204_1 ?_
    refine k_lconst (v := 0) f204_2 rfl ?_
    refine k_lconst (v := 3) f204_3 rfl ?_
    refine e_s (as := [.long (3), .long (0), .long ((k).toInt64)]) (rest := []) f204_6 rfl rfl rfl (s_in (0) (3) rfl rfl) ?_
    refine k_beq f204_9 (fun _ => ?_) (fun h_ => (absurd h_ (fun h => h.1 hk)))
    refine k_iconst (v := (-1)) f204_21 rfl ?_
    refine k_iret f204_22 rfl ⟨rfl, ?_⟩
    exact inv_q hI (by omega) Kq.rfl KS.rfl
  · show zOk x 399 97 0 [.ref 0, .int (k)] [] _ _
    refine k_iload f97_0 rfl ?_
    refine k_if_lt f97_1 (fun h_ => absurd h_ (k4_n hk)) (fun _ => ?_)
    refine k_iload f97_4 rfl ?_
    refine k_iconst (v := 4) f97_5 rfl ?_
    refine k_ic_ge f97_6 (fun _ => ?_) (fun h_ => absurd (hk) h_)
    refine k_iconst (v := (-1)) f97_18 rfl ?_
    refine k_iret f97_19 rfl ⟨_, rfl, ?_⟩
    show zOk x 399 204 0 [.ref 51, .int (k), zU] [] _ _
    refine k_iload f204_0 rfl ?_
    refine k_i2l f204_1 ?_
    refine k_lconst (v := 0) f204_2 rfl ?_
    refine k_lconst (v := 3) f204_3 rfl ?_
    refine e_s (as := [.long (3), .long (0), .long ((k).toInt64)]) (rest := []) f204_6 rfl rfl rfl (s_in (0) (3) rfl rfl) ?_
    refine k_beq f204_9 (fun _ => ?_) (fun h_ => (absurd h_ (fun h => h.2 (k4_3 hk))))
    refine k_iconst (v := (-1)) f204_21 rfl ?_
    refine k_iret f204_22 rfl ⟨rfl, ?_⟩
    exact inv_q hI (by omega) Kq.rfl KS.rfl
  · rcases hIm t ht with hN | ⟨y1, st, pl', y2, y3, y4, y5⟩
    · show zOk x 399 97 0 [.ref 0, .int (nI t)] [] _ _
      refine k_iload f97_0 rfl ?_
      refine k_if_lt f97_1 (fun h_ => absurd h_ (nI_pos (by omega))) (fun _ => ?_)
      refine k_iload f97_4 rfl ?_
      refine k_iconst (v := 4) f97_5 rfl ?_
      refine k_ic_ge f97_6 (fun h_ => absurd h_ (nI_ge (b := 4) ht (by omega))) (fun _ => ?_)
      refine k_aload f97_9 rfl ?_
      refine k_getr (q := 37) f97_10 hS.o0 rfl hR.r0_7 ?_
      refine k_iload f97_13 rfl ?_
      refine k_aan (k := t) f97_14 hS.a37 rfl rfl (by omega) (by decide) hN.2 ?_
      refine k_nonn f97_15 ?_
      refine k_iconst (v := (-1)) f97_18 rfl ?_
      refine k_iret f97_19 rfl ⟨_, rfl, ?_⟩
      show zOk x 399 204 0 [.ref 51, .int (nI t), zU] [] _ _
      refine k_iload f204_0 rfl ?_
      refine k_i2l f204_1 ?_
      refine k_lconst (v := 0) f204_2 rfl ?_
      refine k_lconst (v := 3) f204_3 rfl ?_
      refine e_s (as := [.long (3), .long (0), .long ((nI t).toInt64)]) (rest := []) f204_6 rfl rfl rfl (s_in (0) (3) rfl rfl) ?_
      refine k_beq f204_9 (fun h_ => absurd (⟨nI_pos (by omega), nI_nlt (a := 3) (by omega) (by omega)⟩) h_) (fun _ => ?_)
      refine k_aload f204_12 rfl ?_
      refine k_getr (q := 70) f204_13 hS.o51 rfl hR.r51_38 ?_
      refine k_iload f204_16 rfl ?_
      refine k_za (k := t) (w := 0) f204_17 hS.a70 rfl (by omega) (by decide) hN.1 ?_
      refine k_if_ne f204_18 (fun h_ => absurd (by decide) h_) (fun _ => ?_)
      refine k_iconst (v := (-1)) f204_21 rfl ?_
      refine k_iret f204_22 rfl ⟨rfl, ?_⟩
      exact inv_q hI (by omega) Kq.rfl KS.rfl
    · have hpl : pl' = 1 ∨ 71 ≤ pl' := y4.2.2.1.1
      have n8 : cl (imS I t 1) ≤ 8 := Nat.le_of_lt_succ y5.2.1.2
      have hfr : ∀ c, c < cl (imS I t 1) → I (st + 2 + c) 4 = 0 ∨ I (st + 2 + c) 4 = 1 := fun c hc => by
        rw [(y4.2.2.2.2.2.2.2.2 c hc).2.2.2.2.1]
        exact rg_01 (y5.2.2.2.2.2.2.2.1 c hc).2.2.2.2.1
      have hR1 : Rs (z_u R 17 0 (some pl')) := rs_keep hS hR (fun p k hp h1 h2 => z_u_no _ _ (by omega))
      show zOk x 399 97 0 [.ref 0, .int (nI t)] [] _ _
      refine k_iload f97_0 rfl ?_
      refine k_if_lt f97_1 (fun h_ => absurd h_ (nI_pos (by omega))) (fun _ => ?_)
      refine k_iload f97_4 rfl ?_
      refine k_iconst (v := 4) f97_5 rfl ?_
      refine k_ic_ge f97_6 (fun h_ => absurd h_ (nI_ge (b := 4) ht (by omega))) (fun _ => ?_)
      refine k_aload f97_9 rfl ?_
      refine k_getr (q := 37) f97_10 hS.o0 rfl hR.r0_7 ?_
      refine k_iload f97_13 rfl ?_
      refine k_aar (k := t) (q := st) f97_14 hS.a37 rfl rfl (by omega) (by decide) y2 ?_
      refine k_nonr f97_15 ?_
      refine k_aload f97_20 rfl ?_
      refine k_getr (q := 17) f97_21 hS.o0 rfl hR.r0_5 ?_
      refine k_aload f97_24 rfl ?_
      refine k_getr (q := 37) f97_25 hS.o0 rfl hR.r0_7 ?_
      refine k_iload f97_28 rfl ?_
      refine k_aar (k := t) (q := st) f97_29 hS.a37 rfl rfl (by omega) (by decide) y2 ?_
      refine k_callv (as := [.ref st]) (rest := []) f97_30 hS.o17 rfl rfl rfl rfl (s_copy (st := 17) (su := st) (pl := pl') (n := cl (imS I t 1)) (by omega) (by omega) hst.1 y4.1 y4.2.1 y4.2.2.1.2.1 (y4.2.2.2.1.2.2.1.trans y5.2.1.1) n8 hfr) ?_
      rintro _ _ ⟨rfl, I1, rfl, hH⟩
      have m69 : ∀ k, I1 69 k = I 69 k := fun k => (hH.1 _ _ (by omega)).trans (cpI_o _ _ (by decide))
      have m70 : I1 70 t = 1 := ((hH.1 _ _ (by omega)).trans (cpI_o _ _ (by decide))).trans y1
      have hday : I1 17 1 = I 69 (139 * t + 3) := ((hH.1 17 1 (by omega)).trans (by simp [cpI, z_u])).trans y4.2.2.2.2.1
      refine k_aload f97_33 rfl ?_
      refine k_getr (q := 17) f97_34 hS.o0 rfl (Eq.trans (z_u_k _ _ _ (by decide)) hR.r0_5) ?_
      refine k_gI (w := I 69 (139 * t + 3)) f97_37 hS.o17 rfl hday ?_
      refine k_iret f97_40 rfl ⟨_, rfl, ?_⟩
      show zOk x 399 204 0 [.ref 51, .int (nI t), zU] [] _ _
      refine k_iload f204_0 rfl ?_
      refine k_i2l f204_1 ?_
      refine k_lconst (v := 0) f204_2 rfl ?_
      refine k_lconst (v := 3) f204_3 rfl ?_
      refine e_s (as := [.long (3), .long (0), .long ((nI t).toInt64)]) (rest := []) f204_6 rfl rfl rfl (s_in (0) (3) rfl rfl) ?_
      refine k_beq f204_9 (fun h_ => absurd (⟨nI_pos (by omega), nI_nlt (a := 3) (by omega) (by omega)⟩) h_) (fun _ => ?_)
      refine k_aload f204_12 rfl ?_
      refine k_getr (q := 70) f204_13 hS.o51 rfl (Eq.trans (z_u_k _ _ _ (by decide)) hR.r51_38) ?_
      refine k_iload f204_16 rfl ?_
      refine k_za (k := t) (w := 1) f204_17 hS.a70 rfl (by omega) (by decide) m70 ?_
      refine k_if_ne f204_18 (fun _ => ?_) (fun h_ => absurd (by decide) h_)
      refine k_iconst (v := 0) f204_23 rfl ?_
      refine k_istore (L' := [.ref 51, .int (nI t), .int (0)]) f204_24 rfl rfl ?_
      refine zOk.imp (lp_back (I0 := I1) hR1 hS ht 139 0 I1 (by omega) (rwH_0 _ _ _ _ _)) ?_
      rintro _ _ ⟨rfl, I3, rfl, hW⟩
      exact ⟨congrArg (fun t => some (Value.int t)) (m69 _), inv_back hI y3 y4 y5 hH hW⟩
