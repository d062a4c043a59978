/-! THE PAIR back. -/
theorem StR.cg {I : Nat → Nat → Int32} {R : Nat → Nat → Option Nat} {G : zG} {st pl : Nat} {s s' : Nat → Int32} (h : StR I R G st pl s) (hc : cl (s 1) ≤ 8) (hm : cl (s 2) ≤ 25) (e : ∀ k, k < 139 → s' k = s k) : StR I R G st pl s' := by
  obtain ⟨a, b, c, ⟨d1, d2, d3, d4, d5⟩, e1, e2, e3, e4, e5⟩ := h
  refine ⟨a, b, c, ⟨by rw [e _ (by omega)]; exact d1, by rw [e _ (by omega)]; exact d2, by rw [e _ (by omega)]; exact d3, by rw [e _ (by omega)]; exact d4, fun m hm' => ?_⟩, by rw [e _ (by omega)]; exact e1, by rw [e _ (by omega)]; exact e2, by rw [e _ (by omega)]; exact e3, by rw [e _ (by omega)]; exact e4, fun c hc' => ?_⟩
  · rw [e 2 (by omega)] at hm' ⊢
    have m25 : m < 25 := by omega
    obtain ⟨g1, g2, g3, g4⟩ := d5 m hm'
    refine ⟨by rw [e _ (by omega)]; exact g1, by rw [e _ (by omega)]; exact g2, by rw [e _ (by omega)]; exact g3, ?_⟩
    rw [ordK_congr (dy' := fun m => s (56 + 3 * m)) fun k hk => e _ (by omega)]
    exact g4
  · rw [e 1 (by omega)] at hc'
    obtain ⟨g0, g1, g2, g3, g4, g5, g6⟩ := e5 c hc'
    exact ⟨by rw [e _ (by omega)]; exact g0, by rw [e _ (by omega)]; exact g1, by rw [e _ (by omega)]; exact g2, by rw [e _ (by omega)]; exact g3, by rw [e _ (by omega)]; exact g4, by rw [e _ (by omega)]; exact g5, by rw [e _ (by omega)]; exact g6⟩
theorem SOk.cg {s s' : Nat → Int32} {rn : Nat} (h : SOk s rn) (e : ∀ k, k < 139 → s' k = s k) : SOk s' rn := by
  have c8 := h.2.1.2
  refine h.congr (e _ (by omega)) (e _ (by omega)) (e _ (by omega)) (e _ (by omega)) (by rw [e _ (by omega)]; exact h.2.2.2.1) (by rw [e _ (by omega)]; exact h.2.2.2.2.1) (by rw [e _ (by omega)]; exact h.2.2.2.2.2.1) (fun c hc => ?_) (fun i _ _ => e _ (by omega))
  exact (h.2.2.2.2.2.2.2.1 c hc).congr (e _ (by omega)) (fun k hk => e _ (by omega)) (e _ (by omega)) (by rw [e _ (by omega)]; exact Nat.le_refl _)
theorem StR.copy {I I' : Nat → Nat → Int32} {R : Nat → Nat → Option Nat} {G : zG} {st su pl n : Nat} {s : Nat → Int32} (h : StR I R G su pl s) (h1 : StS R G st) (hs : st ≠ pl) (hn : s 1 = nI n) (hn8 : n ≤ 8) (hp : pl + 8 ≤ st ∨ st + 10 ≤ pl) (hd : st + 10 ≤ su ∨ su + 10 ≤ st) (hH : cpH (cpI I st su) I' st su n) : StR I' (z_u R st 0 (some pl)) G st pl s := by
  obtain ⟨a, b, ⟨c0, c1, c2, c3, c4⟩, ⟨d1, d2, d3, d4, d5⟩, e1, e2, e3, e4, e5⟩ := h
  have ncl : cl (s 1) = n := by rw [hn, cl_nI (by omega)]
  have ot : ∀ p k, ¬ (st ≤ p ∧ p < st + 10) → I' p k = I p k := fun p k hq => (hH.1 p k (by omega)).trans (cpI_o _ _ (by omega))
  have f1 : I' st 1 = I su 1 := (hH.1 _ _ (by omega)).trans (by simp [cpI, z_u])
  have f2 : I' st 2 = I su 2 := (hH.1 _ _ (by omega)).trans (by simp [cpI, z_u])
  have f3 : I' st 3 = I su 3 := (hH.1 _ _ (by omega)).trans (by simp [cpI, z_u])
  have f4 : I' st 4 = I su 4 := (hH.1 _ _ (by omega)).trans (by simp [cpI, z_u])
  refine ⟨h1.put (by omega), z_u_same _ _ _ _, ⟨c0, c1, fun i hi => (z_u_p _ _ _ _ (by omega)).trans (c2 i hi), c3, c4⟩, ⟨(ot _ _ (by omega)).trans d1, (ot _ _ (by omega)).trans d2, (ot _ _ (by omega)).trans d3, (ot _ _ (by omega)).trans d4, fun m hm => ?_⟩, f1.trans e1, f2.trans e2, f3.trans e3, f4.trans e4, fun c hc => ?_⟩
  · obtain ⟨g1, g2, g3, g4⟩ := d5 m hm
    exact ⟨(ot _ _ (by omega)).trans g1, (ot _ _ (by omega)).trans g2, (ot _ _ (by omega)).trans g3, (ot _ _ (by omega)).trans g4⟩
  · rw [ncl] at hc
    have g := e5 c (by omega)
    have t : ∀ k, k < 7 → I' (st + 2 + c) k = I (su + 2 + c) k := fun k hk => (hH.2 c k hc hk).trans (cpI_o _ _ (by omega))
    exact ⟨(t 0 (by omega)).trans g.1, (t 1 (by omega)).trans g.2.1, (t 2 (by omega)).trans g.2.2.1, (t 3 (by omega)).trans g.2.2.2.1, (t 4 (by omega)).trans g.2.2.2.2.1, (t 5 (by omega)).trans g.2.2.2.2.2.1, (t 6 (by omega)).trans g.2.2.2.2.2.2⟩
/-- the reference's rows: row q from oq on is row p from op on, so far as i -/
def rwH (I0 I1 : Nat → Nat → Int32) (q oq p op i : Nat) : Prop := (∀ r k, ¬ (r = q ∧ oq ≤ k ∧ k < oq + i) → I1 r k = I0 r k) ∧ ∀ k, k < i → I1 q (oq + k) = I0 p (op + k)
theorem rwH_s {I0 I1 : Nat → Nat → Int32} {q oq p op i : Nat} (h : rwH I0 I1 q oq p op i) (hpq : p ≠ q) : rwH I0 (z_u I1 q (oq + i) (I1 p (op + i))) q oq p op (i + 1) := by
  refine ⟨fun r k hr => ?_, fun k hk => ?_⟩
  · rw [z_u_no _ _ (by omega)]
    exact h.1 r k (by omega)
  · by_cases e : k = i
    · subst e
      rw [z_u_same]
      exact h.1 _ _ (by omega)
    · rw [z_u_k _ _ _ (by omega)]
      exact h.2 k (by omega)
theorem ix_i (t i : Nat) : nI (139 * t + i) = ((139) * (nI t)) + (nI i) := by
  rw [← nI_add, ← pk_mul]; rfl
theorem rwH_0 (I0 : Nat → Nat → Int32) (q oq p op : Nat) : rwH I0 I0 q oq p op 0 := ⟨fun _ _ _ => rfl, fun _ h => absurd h (Nat.not_lt_zero _)⟩
theorem lp_back {x : Nat × (Nat → Int32)} {d : Nat} {J : Nat → Nat → Int64} {R : Nat → Nat → Option Nat} {G : zG} {I0 : Nat → Nat → Int32} {t : Nat} (hR : Rs R) (hS : Sh G) (ht : t < 4) : ∀ (f i : Nat) (I : Nat → Nat → Int32), i + f = 139 → rwH I0 I 62 0 69 (139 * t) i → zOk x d 204 25 [.ref 51, .int (nI t), .int (nI i)] [] (I, J, R, G) (fun v m => v = some (.int (I0 69 (139 * t + 3))) ∧ ∃ I', m = (I', J, R, G) ∧ rwH I0 I' 62 0 69 (139 * t) 139) := by
  intro f
  induction f with
  | zero =>
    intro i I hi hH
    have hi : i = 139 := by omega
    subst hi
    refine k_iload f204_25 rfl ?_
    refine k_iconst (v := 139) f204_26 rfl ?_
    refine k_ic_ge f204_29 (fun _ => ?_) (fun h_ => absurd (by decide) h_)
    refine k_aload f204_56 rfl ?_
    refine k_getr (q := 62) f204_57 hS.o51 rfl hR.r51_25 ?_
    refine k_iconst (v := 3) f204_60 rfl ?_
    refine k_ia (k := 3) (w := I 62 3) f204_61 hS.a62 rfl (by decide) (by decide) rfl ?_
    exact k_iret f204_62 rfl ⟨congrArg (fun t => some (Value.int t)) (by have q := hH.2 3 (by omega); rw [Nat.zero_add] at q; exact q), I, rfl, hH⟩
  | succ f ih =>
    intro i I hi hH
    refine k_iload f204_25 rfl ?_
    refine k_iconst (v := 139) f204_26 rfl ?_
    refine k_ic_ge f204_29 (fun h_ => absurd h_ (nI_ge (b := 139) (by omega) (by omega))) (fun _ => ?_)
    refine k_aload f204_32 rfl ?_
    refine k_getr (q := 62) f204_33 hS.o51 rfl hR.r51_25 ?_
    refine k_iload f204_36 rfl ?_
    refine k_aload f204_37 rfl ?_
    refine k_getr (q := 69) f204_38 hS.o51 rfl hR.r51_37 ?_
    refine k_iconst (v := 139) f204_41 rfl ?_
    refine k_iload f204_44 rfl ?_
    refine k_imul f204_45 ?_
    refine k_iload f204_46 rfl ?_
    refine k_iadd f204_47 ?_
    refine k_ia (k := 139 * t + i) (w := I 69 (139 * t + i)) f204_48 hS.a69 (ix_i t i) (by omega) (by decide) rfl ?_
    refine k_is (k := i) f204_49 hS.a62 rfl (by omega) (by decide) ?_
    refine k_iinc (w := nI (i + 1)) (L' := [.ref 51, .int (nI t), .int (nI (i + 1))]) f204_50 rfl (nI_1 i) rfl rfl ?_
    refine k_goto f204_53 ?_
    have hs := rwH_s hH (by decide)
    rw [Nat.zero_add] at hs
    exact ih (i + 1) _ (by omega) hs
