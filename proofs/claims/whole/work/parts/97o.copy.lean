/-! A STATE copied from another. -/
def cpC (I : Nat → Nat → Int32) (a b : Nat) : Nat → Nat → Int32 := z_u (z_u (z_u (z_u (z_u (z_u (z_u I a 0 (I b 0)) a 1 (I b 1)) a 2 (I b 2)) a 3 (I b 3)) a 4 (I b 4)) a 5 (I b 5)) a 6 (I b 6)
theorem cpC_o (I : Nat → Nat → Int32) {a b p : Nat} (k : Nat) (h : p ≠ a) : cpC I a b p k = I p k := by
  unfold cpC
  rw [z_u_p _ _ _ _ h, z_u_p _ _ _ _ h, z_u_p _ _ _ _ h, z_u_p _ _ _ _ h, z_u_p _ _ _ _ h, z_u_p _ _ _ _ h, z_u_p _ _ _ _ h]
theorem cpC_a (I : Nat → Nat → Int32) (a b : Nat) {k : Nat} (h : k < 7) : cpC I a b a k = I b k := by
  unfold cpC
  match k, h with
  | 0, _ => simp [z_u]
  | 1, _ => simp [z_u]
  | 2, _ => simp [z_u]
  | 3, _ => simp [z_u]
  | 4, _ => simp [z_u]
  | 5, _ => simp [z_u]
  | 6, _ => simp [z_u]
theorem s_cnCopy {x : Nat × (Nat → Int32)} {d : Nat} {I : Nat → Nat → Int32} {J : Nat → Nat → Int64} {R : Nat → Nat → Option Nat} {G : zG} {a b : Nat} (ha : zo G a 1) (hb : zo G b 1) (hab : b ≠ a) (hf : I b 4 = 0 ∨ I b 4 = 1) : zRn x d 10 [.ref a, .ref b] (I, J, R, G) (none) (cpC I a b, J, R, G) := by
  show zOk x d 10 0 [.ref a, .ref b] [] _ _
  refine k_aload f10_0 rfl ?_
  refine k_aload f10_1 rfl ?_
  refine k_gI (w := I b 0) f10_2 hb rfl rfl ?_
  refine k_putI f10_5 ha rfl ?_
  refine k_aload f10_8 rfl ?_
  refine k_aload f10_9 rfl ?_
  refine k_gI (w := I b 1) f10_10 hb rfl (z_u_p _ _ _ _ hab) ?_
  refine k_putI f10_13 ha rfl ?_
  refine k_aload f10_16 rfl ?_
  refine k_aload f10_17 rfl ?_
  refine k_gI (w := I b 2) f10_18 hb rfl (Eq.trans (z_u_p _ _ _ _ hab) (z_u_p _ _ _ _ hab)) ?_
  refine k_putI f10_21 ha rfl ?_
  refine k_aload f10_24 rfl ?_
  refine k_aload f10_25 rfl ?_
  refine k_gI (w := I b 3) f10_26 hb rfl (Eq.trans (z_u_p _ _ _ _ hab) (Eq.trans (z_u_p _ _ _ _ hab) (z_u_p _ _ _ _ hab))) ?_
  refine k_putI f10_29 ha rfl ?_
  refine k_aload f10_32 rfl ?_
  refine k_aload f10_33 rfl ?_
  refine k_gI (w := I b 4) f10_34 hb rfl (Eq.trans (z_u_p _ _ _ _ hab) (Eq.trans (z_u_p _ _ _ _ hab) (Eq.trans (z_u_p _ _ _ _ hab) (z_u_p _ _ _ _ hab)))) ?_
  refine k_putZ f10_37 ha rfl hf ?_
  refine k_aload f10_40 rfl ?_
  refine k_aload f10_41 rfl ?_
  refine k_gI (w := I b 5) f10_42 hb rfl (Eq.trans (z_u_p _ _ _ _ hab) (Eq.trans (z_u_p _ _ _ _ hab) (Eq.trans (z_u_p _ _ _ _ hab) (Eq.trans (z_u_p _ _ _ _ hab) (z_u_p _ _ _ _ hab))))) ?_
  refine k_putI f10_45 ha rfl ?_
  refine k_aload f10_48 rfl ?_
  refine k_aload f10_49 rfl ?_
  refine k_gI (w := I b 6) f10_50 hb rfl (Eq.trans (z_u_p _ _ _ _ hab) (Eq.trans (z_u_p _ _ _ _ hab) (Eq.trans (z_u_p _ _ _ _ hab) (Eq.trans (z_u_p _ _ _ _ hab) (Eq.trans (z_u_p _ _ _ _ hab) (z_u_p _ _ _ _ hab)))))) ?_
  refine k_putI f10_53 ha rfl ?_
  exact k_vret f10_56 ⟨rfl, rfl⟩
def cpH (I0 I1 : Nat → Nat → Int32) (st su i : Nat) : Prop := (∀ p k, ¬ (st + 2 ≤ p ∧ p < st + 2 + i) → I1 p k = I0 p k) ∧ ∀ c k, c < i → k < 7 → I1 (st + 2 + c) k = I0 (su + 2 + c) k
theorem cpH_s {I0 I1 : Nat → Nat → Int32} {st su i : Nat} (h : cpH I0 I1 st su i) (hd : st + 10 ≤ su ∨ su + 10 ≤ st) (hi : i < 8) : cpH I0 (cpC I1 (st + 2 + i) (su + 2 + i)) st su (i + 1) := by
  refine ⟨fun p k hp => ?_, fun c k hc hk => ?_⟩
  · rw [cpC_o _ _ (by omega)]
    exact h.1 p k (by omega)
  · by_cases q : c = i
    · subst q
      rw [cpC_a _ _ _ hk]
      exact h.1 _ _ (by omega)
    · rw [cpC_o _ _ (by omega)]
      exact h.2 c k (by omega) hk
theorem lp_copy {x : Nat × (Nat → Int32)} {d : Nat} {J : Nat → Nat → Int64} {R : Nat → Nat → Option Nat} {G : zG} {st su pl n : Nat} {I0 : Nat → Nat → Int32} (hd : st + 10 ≤ su ∨ su + 10 ≤ st) (hp : pl + 8 ≤ st ∨ st + 10 ≤ pl) (h1 : StS R G st) (h2 : StS R G su) (h3 : R st 0 = some pl) (h4 : zo G pl 3) (hn : I0 pl 2 = nI n) (hn8 : n ≤ 8) (hf : ∀ c, c < n → I0 (su + 2 + c) 4 = 0 ∨ I0 (su + 2 + c) 4 = 1) : ∀ (f i : Nat) (I : Nat → Nat → Int32), i + f = n → cpH I0 I st su i → zOk x (d + 1) 36 42 [.ref st, .ref su, .int (nI i)] [] (I, J, R, G) (fun v m => v = none ∧ ∃ I', m = (I', J, R, G) ∧ cpH I0 I' st su n) := by
  intro f
  induction f with
  | zero =>
    intro i I hi hH
    refine k_iload f36_42 rfl ?_
    refine k_aload f36_43 rfl ?_
    refine k_getr (q := pl) f36_44 h1.1 rfl h3 ?_
    refine k_gI (w := nI n) f36_47 h4 rfl ((hH.1 _ _ (by omega)).trans hn) ?_
    refine k_ic_ge f36_50 (fun _ => ?_) (fun h_ => absurd (nI_le (by omega) (by omega)) h_)
    exact k_vret f36_74 ⟨rfl, I, rfl, (show i = n by omega) ▸ hH⟩
  | succ f ih =>
    intro i I hi hH
    have hin : i < n := by omega
    refine k_iload f36_42 rfl ?_
    refine k_aload f36_43 rfl ?_
    refine k_getr (q := pl) f36_44 h1.1 rfl h3 ?_
    refine k_gI (w := nI n) f36_47 h4 rfl ((hH.1 _ _ (by omega)).trans hn) ?_
    refine k_ic_ge f36_50 (fun h_ => absurd h_ (nI_ge hin (by omega))) (fun _ => ?_)
    refine k_aload f36_53 rfl ?_
    refine k_getr (q := st + 1) f36_54 h1.1 rfl h1.2.1 ?_
    refine k_iload f36_57 rfl ?_
    refine k_aar (k := i) (q := st + 2 + i) f36_58 h1.2.2.1 rfl rfl (by omega) (by decide) (h1.2.2.2 i (by omega)).1 ?_
    refine k_aload f36_59 rfl ?_
    refine k_getr (q := su + 1) f36_60 h2.1 rfl h2.2.1 ?_
    refine k_iload f36_63 rfl ?_
    refine k_aar (k := i) (q := su + 2 + i) f36_64 h2.2.2.1 rfl rfl (by omega) (by decide) (h2.2.2.2 i (by omega)).1 ?_
    refine e_v (as := [.ref (su + 2 + i)]) (rest := []) f36_65 (h1.2.2.2 i (by omega)).2 rfl rfl rfl (s_cnCopy (h1.2.2.2 i (by omega)).2 (h2.2.2.2 i (by omega)).2 (by omega) (by rw [hH.1 _ _ (by omega)]; exact hf i hin)) ?_
    refine k_iinc (w := nI (i + 1)) (L' := [.ref st, .ref su, .int (nI (i + 1))]) f36_68 rfl (nI_1 i) rfl rfl ?_
    refine k_goto f36_71 ?_
    exact ih (i + 1) _ (by omega) (cpH_s hH hd (by omega))
def cpI (I : Nat → Nat → Int32) (st su : Nat) : Nat → Nat → Int32 := z_u (z_u (z_u (z_u I st 1 (I su 1)) st 2 (I su 2)) st 3 (I su 3)) st 4 (I su 4)
theorem cpI_o (I : Nat → Nat → Int32) {st su p : Nat} (k : Nat) (h : p ≠ st) : cpI I st su p k = I p k := by
  unfold cpI
  rw [z_u_p _ _ _ _ h, z_u_p _ _ _ _ h, z_u_p _ _ _ _ h, z_u_p _ _ _ _ h]
theorem StS.put {R : Nat → Nat → Option Nat} {G : zG} {st p : Nat} {v : Option Nat} (h : StS R G st) (hp : p ≠ st + 1) : StS (z_u R p 0 v) G st := by
  obtain ⟨a, b, c, e⟩ := h
  exact ⟨a, (z_u_k _ _ _ (by decide)).trans b, c, fun i hi => ⟨(z_u_p _ _ _ _ (by omega)).trans (e i hi).1, (e i hi).2⟩⟩
theorem s_copy {x : Nat × (Nat → Int32)} {d : Nat} {I : Nat → Nat → Int32} {J : Nat → Nat → Int64} {R : Nat → Nat → Option Nat} {G : zG} {st su pl n : Nat} (hd : st + 10 ≤ su ∨ su + 10 ≤ st) (hp : pl + 8 ≤ st ∨ st + 10 ≤ pl) (h1 : StS R G st) (h2 : StS R G su) (h3 : R su 0 = some pl) (h4 : zo G pl 3) (hn : I pl 2 = nI n) (hn8 : n ≤ 8) (hf : ∀ c, c < n → I (su + 2 + c) 4 = 0 ∨ I (su + 2 + c) 4 = 1) : zOk x (d + 1) 36 0 [.ref st, .ref su, zU] [] (I, J, R, G) (fun v m => v = none ∧ ∃ I', m = (I', J, z_u R st 0 (some pl), G) ∧ cpH (cpI I st su) I' st su n) := by
  refine k_aload f36_0 rfl ?_
  refine k_aload f36_1 rfl ?_
  refine k_getr (q := pl) f36_2 h2.1 rfl h3 ?_
  refine k_putR f36_5 h1.1 rfl ?_
  refine k_aload f36_8 rfl ?_
  refine k_aload f36_9 rfl ?_
  refine k_gI (w := I su 1) f36_10 h2.1 rfl rfl ?_
  refine k_putI f36_13 h1.1 rfl ?_
  refine k_aload f36_16 rfl ?_
  refine k_aload f36_17 rfl ?_
  refine k_gI (w := I su 2) f36_18 h2.1 rfl (z_u_p _ _ _ _ (by omega)) ?_
  refine k_putI f36_21 h1.1 rfl ?_
  refine k_aload f36_24 rfl ?_
  refine k_aload f36_25 rfl ?_
  refine k_gI (w := I su 3) f36_26 h2.1 rfl (Eq.trans (z_u_p _ _ _ _ (by omega)) (z_u_p _ _ _ _ (by omega))) ?_
  refine k_putI f36_29 h1.1 rfl ?_
  refine k_aload f36_32 rfl ?_
  refine k_aload f36_33 rfl ?_
  refine k_gI (w := I su 4) f36_34 h2.1 rfl (Eq.trans (z_u_p _ _ _ _ (by omega)) (Eq.trans (z_u_p _ _ _ _ (by omega)) (z_u_p _ _ _ _ (by omega)))) ?_
  refine k_putI f36_37 h1.1 rfl ?_
  refine k_iconst (v := 0) f36_40 rfl ?_
  refine k_istore (L' := [.ref st, .ref su, .int (0)]) f36_41 rfl rfl ?_
  have h := lp_copy (x := x) (d := d) (J := J) (I0 := cpI I st su) hd hp (h1.put (p := st) (v := some pl) (by omega)) (h2.put (p := st) (v := some pl) (by omega)) (z_u_same R st 0 (some pl)) h4 ((cpI_o _ _ (by omega)).trans hn) hn8 (fun c hc => by rw [cpI_o _ _ (by omega)]; exact hf c hc) n 0 (cpI I st su) (by omega) ⟨fun _ _ _ => rfl, fun c k hc _ => absurd hc (Nat.not_lt_zero _)⟩
  exact h
