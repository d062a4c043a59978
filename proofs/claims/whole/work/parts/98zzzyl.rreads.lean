/-! RULES, read in the reference: all. -/
theorem lp_readsP {σ : Type} {cl : σ → Nat → Sum Nat (σ × Nat)} {Rel : σ → (Nat → Nat → Int32) → Prop} {F : (Nat → Nat → Int32) → (Nat → Nat → Int32) → Prop} {Gd : Nat → σ → Prop} {Po : σ → Nat → Prop} {x : Nat × (Nat → Int32)} {d : Nat} {J : Nat → Nat → Int64} {R : Nat → Nat → Option Nat} {G : zG} {I0 : Nat → Nat → Int32} {b : Nat → Nat} {n : Nat} (hR : Rs R) (hS : Sh G) (hT0 : TP I0 b n)
    (hL : ∀ I I', LX I I' → F I I') (hFt : ∀ I I1 I2, F I I1 → F I1 I2 → F I I2) (hFp : ∀ I I', F I I' → TP I b n → TP I' b n) (hRl : ∀ s I I', Rel s I → LX I I' → Rel s I') (hR1 : ∀ s I, Rel s I → Rel s (z_u I 51 1 0)) (hPm : ∀ s p p', Po s p → p ≤ p' → Po s p')
    (hG0 : ∀ s, ¬ Gd 0 s) (hGs : ∀ f s q z, q ≤ n → Gd (f + 1) s → Po s q → cl s q = .inr z → Gd f z.1 ∧ z.2 ≤ n ∧ Po z.1 z.2)
    (hcl : ∀ f s p I, Gd (f + 1) s → Po s p → TP I b n → RX I n p → Rel s I → zOk x (d + 4) 144 0 [.ref 51, zU, zU, zU] [] (I, J, R, G) (fun v mm => ∃ I' w, v = some (.int w) ∧ mm = (I', J, R, G) ∧ F I I' ∧ ClG Rel I' n w (cl s (bk b n p)))) : ∀ (f : Nat) (s : σ) (q : Nat) (w : Int32) (I : Nat → Nat → Int32), Gd (f + 1) s → q ≤ n → Po s q → F I0 I → ClG Rel I n w (cl s q) → zOk x (d + 5) 145 35 [.ref 51, .int w] [] (I, J, R, G) (fun v m => ∃ I' I1, m = (I', J, R, G) ∧ F I0 I1 ∧ I' = z_u I1 51 1 0 ∧ RdG Rel I' v (rdG cl b n (f + 1) s q)) := by
  have h400 := hT0.1
  intro f
  induction f with
  | zero =>
    intro s q w I hg hq hpo hF hC
    have hT := hFp _ _ hF hT0
    rw [rdG_s]
    cases hc : cl s q with
    | inl e =>
      rw [hc] at hC
      obtain ⟨rfl, c2, c3, c4⟩ := hC
      show zOk x (d + 5) 145 35 _ [] _ (fun v m => ∃ I' I1, m = (I', J, R, G) ∧ F I0 I1 ∧ I' = z_u I1 51 1 0 ∧ RdG Rel I' v (.inl e))
      refine k_iload f145_35 rfl ?_
      refine k_if_eq f145_36 (fun _ => ?_) (fun h_ => absurd (by decide) h_)
      refine k_iload f145_66 rfl ?_
      refine k_if_eq f145_67 (fun _ => ?_) (fun h_ => absurd (by decide) h_)
      refine k_aload f145_88 rfl ?_
      refine k_iconst (v := 0) f145_89 rfl ?_
      refine k_putI f145_90 hS.o51 rfl ?_
      refine k_aload f145_93 rfl ?_
      refine k_gI (w := nI e) f145_94 hS.o51 rfl (Eq.trans (z_u_k _ _ _ (by decide)) c2) ?_
      refine k_if_ne f145_97 (fun _ => ?_) (fun h_ => absurd ((fun z => absurd ((nI_eq (b := 0) (by omega) (by omega)).mp z) (by omega))) h_)
      refine k_iconst (v := 0) f145_104 rfl ?_
      exact k_iret f145_105 (by decide) ⟨_, I, rfl, hF, rfl, rfl, (z_u_k _ _ _ (by decide)).trans c2⟩
    | inr z =>
      obtain ⟨g1, k3, k5⟩ := hGs _ _ _ _ hq hg hpo hc
      exact absurd g1 (hG0 _)
  | succ f ih =>
    intro s q w I hg hq hpo hF hC
    have hT := hFp _ _ hF hT0
    rw [rdG_s]
    cases hc : cl s q with
    | inl e =>
      rw [hc] at hC
      obtain ⟨rfl, c2, c3, c4⟩ := hC
      show zOk x (d + 5) 145 35 _ [] _ (fun v m => ∃ I' I1, m = (I', J, R, G) ∧ F I0 I1 ∧ I' = z_u I1 51 1 0 ∧ RdG Rel I' v (.inl e))
      refine k_iload f145_35 rfl ?_
      refine k_if_eq f145_36 (fun _ => ?_) (fun h_ => absurd (by decide) h_)
      refine k_iload f145_66 rfl ?_
      refine k_if_eq f145_67 (fun _ => ?_) (fun h_ => absurd (by decide) h_)
      refine k_aload f145_88 rfl ?_
      refine k_iconst (v := 0) f145_89 rfl ?_
      refine k_putI f145_90 hS.o51 rfl ?_
      refine k_aload f145_93 rfl ?_
      refine k_gI (w := nI e) f145_94 hS.o51 rfl (Eq.trans (z_u_k _ _ _ (by decide)) c2) ?_
      refine k_if_ne f145_97 (fun _ => ?_) (fun h_ => absurd ((fun z => absurd ((nI_eq (b := 0) (by omega) (by omega)).mp z) (by omega))) h_)
      refine k_iconst (v := 0) f145_104 rfl ?_
      exact k_iret f145_105 (by decide) ⟨_, I, rfl, hF, rfl, rfl, (z_u_k _ _ _ (by decide)).trans c2⟩
    | inr z =>
      obtain ⟨g1, k3, k5⟩ := hGs _ _ _ _ hq hg hpo hc
      rw [hc] at hC
      obtain ⟨rfl, hx, hz⟩ := hC
      have q2 : bk b n z.2 ≤ n := (bk_le k3).2
      have q3 : z.2 ≤ bk b n z.2 := (bk_le k3).1
      have b8 : bk b n z.2 < n → b (bk b n z.2) < 256 := fun h => (hT0.2 _ (by omega)).1
      show zOk x (d + 5) 145 35 _ [] _ (fun v m => ∃ I' I1, m = (I', J, R, G) ∧ F I0 I1 ∧ I' = z_u I1 51 1 0 ∧ RdG Rel I' v (if siT b n 59 (.inr (bk b n z.2)) = true then rdG cl b n (f + 1) z.1 (bk b n (ed b n (bk b n z.2))) else if enT b n (.inr (bk b n z.2)) = true then .inr z.1 else .inl (1 + 8 * bk b n z.2)))
      have p59 : plS 59 := ⟨by omega, by omega, by omega, by omega, by omega⟩
      by_cases hs : siT b n 59 (.inr (bk b n z.2)) = true
      · rw [if_pos hs]
        have hsi := siT_i (b := b) (n := n) (q := bk b n z.2) p59
        have q4 := bk_le (b := b) (n := n) (p := bk b n z.2 + 1) (by have := (hsi.mp hs).1; omega)
        rw [ed_i p59 hs]
        refine k_iload f145_35 rfl ?_
        refine k_if_eq f145_36 (fun h_ => absurd h_ (by decide)) (fun _ => ?_)
        refine k_aload f145_39 rfl ?_
        refine k_callv (as := []) (rest := []) f145_40 hS.o51 rfl rfl rfl rfl (q_see (p := z.2) hR hS hT hx) ?_
        rintro _ _ ⟨rfl, I1, rfl, hx1, hl1⟩
        have hT1 := hl1.tp hT
        have hz1 := hRl _ _ _ hz hl1
        have hF1 := hFt _ _ _ hF (hL _ _ hl1)
        refine k_iconst (v := 59) f145_43 rfl ?_
        refine k_ic_ne f145_45 (fun h_ => absurd ((se_eq (c := 59) (b8 (hsi.mp hs).1) (by omega)).mpr (hsi.mp hs)) h_) (fun _ => ?_)
        refine k_aload f145_48 rfl ?_
        refine k_dup f145_49 ?_
        refine k_gI (w := nI (bk b n z.2)) f145_50 hS.o51 rfl hx1.1 ?_
        refine k_iconst (v := 1) f145_53 rfl ?_
        refine k_iadd f145_54 ?_
        rw [nI_1 (bk b n z.2)]
        refine k_putI f145_55 hS.o51 rfl ?_
        refine k_aload f145_58 rfl ?_
        refine k_callv (as := []) (rest := []) f145_59 hS.o51 rfl rfl rfl rfl (hcl f z.1 (bk b n z.2 + 1) (z_u I1 51 13 (nI (bk b n z.2 + 1))) g1 (hPm _ _ _ k5 (by omega)) (hT1.put (by decide) (by decide)) ⟨z_u_same _ _ _ _, by have := (hsi.mp hs).1; omega, (z_u_k _ _ _ (by decide)).trans hx1.2.2.1, (z_u_k _ _ _ (by decide)).trans hx1.2.2.2⟩ (hRl _ _ _ hz1 (LX.rfl.put (by omega)))) ?_
        rintro _ _ ⟨I3, w3, rfl, rfl, hF3, hC3⟩
        have hF3 := hFt _ _ _ (hFt _ _ _ hF1 (hL _ _ (LX.rfl.put (c := 13) (v := nI (bk b n z.2 + 1)) (by omega)))) hF3
        refine k_istore (L' := [.ref 51, .int (w3)]) f145_62 rfl rfl ?_
        refine k_goto f145_63 ?_
        exact ih z.1 _ w3 I3 g1 q4.2 (hPm _ _ _ k5 (by omega)) hF3 hC3
      · rw [if_neg hs]
        have hsi := siT_i (b := b) (n := n) (q := bk b n z.2) p59
        have n59 : ¬ seV b n (bk b n z.2) = 59 := fun h => by
          by_cases hh : bk b n z.2 < n
          · exact hs (hsi.mpr ((se_eq (c := 59) (b8 hh) (by omega)).mp h))
          · unfold seV at h
            rw [if_neg hh] at h
            exact absurd h (by decide)
        by_cases hE : bk b n z.2 < n
        · have nm : ¬ seV b n (bk b n z.2) = (-1) := fun h => by
            have h : (if bk b n z.2 < n then nI (b (bk b n z.2)) else -1) = (-1 : Int32) := h
            rw [if_pos hE] at h
            exact nI_m1 (by have := b8 hE; omega) h
          refine k_iload f145_35 rfl ?_
          refine k_if_eq f145_36 (fun h_ => absurd h_ (by decide)) (fun _ => ?_)
          refine k_aload f145_39 rfl ?_
          refine k_callv (as := []) (rest := []) f145_40 hS.o51 rfl rfl rfl rfl (q_see (p := z.2) hR hS hT hx) ?_
          rintro _ _ ⟨rfl, I1, rfl, hx1, hl1⟩
          have hT1 := hl1.tp hT
          have hz1 := hRl _ _ _ hz hl1
          have hF1 := hFt _ _ _ hF (hL _ _ hl1)
          refine k_iconst (v := 59) f145_43 rfl ?_
          refine k_ic_ne f145_45 (fun _ => ?_) (fun h_ => absurd (n59) h_)
          refine k_iload f145_66 rfl ?_
          refine k_if_eq f145_67 (fun h_ => absurd h_ (by decide)) (fun _ => ?_)
          refine k_aload f145_70 rfl ?_
          refine k_callv (as := []) (rest := []) f145_71 hS.o51 rfl rfl rfl rfl (q_see (p := bk b n z.2) hR hS hT1 hx1) ?_
          rintro _ _ ⟨rfl, I2, rfl, hx2, hl2⟩
          rw [bk_bk k3] at hx2 ⊢
          have hT2 := hl2.tp hT1
          have hz2 := hRl _ _ _ hz1 hl2
          have hF2 := hFt _ _ _ hF1 (hL _ _ hl2)
          refine k_iconst (v := (-1)) f145_74 rfl ?_
          refine k_ic_eq f145_75 (fun h_ => absurd h_ (nm)) (fun _ => ?_)
          refine k_aload f145_78 rfl ?_
          refine k_iconst (v := 0) f145_79 rfl ?_
          refine k_aload f145_80 rfl ?_
          refine k_gI (w := nI (bk b n z.2)) f145_81 hS.o51 rfl hx2.1 ?_
          refine e_v (as := [.int (nI (bk b n z.2)), .int (0)]) (rest := []) f145_84 hS.o51 rfl rfl rfl (s_fails (w := 0) (a := bk b n z.2) hS hx2.2.2.1) ?_
          refine k_popi f145_87 ?_
          refine k_aload f145_88 rfl ?_
          refine k_iconst (v := 0) f145_89 rfl ?_
          refine k_putI f145_90 hS.o51 rfl ?_
          refine k_aload f145_93 rfl ?_
          refine k_gI (w := nI (1 + 8 * bk b n z.2 + 0)) f145_94 hS.o51 rfl (Eq.trans (z_u_k _ _ _ (by decide)) (z_u_same _ _ _ _)) ?_
          refine k_if_ne f145_97 (fun _ => ?_) (fun h_ => absurd ((fun z => absurd ((nI_eq (b := 0) (by omega) (by omega)).mp z) (by omega))) h_)
          refine k_iconst (v := 0) f145_104 rfl ?_
          exact k_iret f145_105 (by decide) ⟨_, _, rfl, hFt _ _ _ hF2 (hL _ _ (LX.rfl.put (c := 14) (v := nI (1 + 8 * bk b n z.2 + 0)) (by omega))), rfl, by rw [if_neg (fun z => (enT_i.mp z) hE)]; exact ⟨rfl, (z_u_k _ _ _ (by decide)).trans (z_u_same _ _ _ _)⟩⟩
        · refine k_iload f145_35 rfl ?_
          refine k_if_eq f145_36 (fun h_ => absurd h_ (by decide)) (fun _ => ?_)
          refine k_aload f145_39 rfl ?_
          refine k_callv (as := []) (rest := []) f145_40 hS.o51 rfl rfl rfl rfl (q_see (p := z.2) hR hS hT hx) ?_
          rintro _ _ ⟨rfl, I1, rfl, hx1, hl1⟩
          have hT1 := hl1.tp hT
          have hz1 := hRl _ _ _ hz hl1
          have hF1 := hFt _ _ _ hF (hL _ _ hl1)
          refine k_iconst (v := 59) f145_43 rfl ?_
          refine k_ic_ne f145_45 (fun _ => ?_) (fun h_ => absurd (n59) h_)
          refine k_iload f145_66 rfl ?_
          refine k_if_eq f145_67 (fun h_ => absurd h_ (by decide)) (fun _ => ?_)
          refine k_aload f145_70 rfl ?_
          refine k_callv (as := []) (rest := []) f145_71 hS.o51 rfl rfl rfl rfl (q_see (p := bk b n z.2) hR hS hT1 hx1) ?_
          rintro _ _ ⟨rfl, I2, rfl, hx2, hl2⟩
          rw [bk_bk k3] at hx2 ⊢
          have hT2 := hl2.tp hT1
          have hz2 := hRl _ _ _ hz1 hl2
          have hF2 := hFt _ _ _ hF1 (hL _ _ hl2)
          refine k_iconst (v := (-1)) f145_74 rfl ?_
          refine k_ic_eq f145_75 (fun _ => ?_) (fun h_ => absurd (if_neg hE) h_)
          refine k_aload f145_88 rfl ?_
          refine k_iconst (v := 0) f145_89 rfl ?_
          refine k_putI f145_90 hS.o51 rfl ?_
          refine k_aload f145_93 rfl ?_
          refine k_gI (w := 0) f145_94 hS.o51 rfl (Eq.trans (z_u_k _ _ _ (by decide)) hx2.2.2.1) ?_
          refine k_if_ne f145_97 (fun h_ => absurd (by decide) h_) (fun _ => ?_)
          refine k_iconst (v := 1) f145_100 rfl ?_
          refine k_goto f145_101 ?_
          exact k_iret f145_105 (by decide) ⟨_, I2, rfl, hF2, rfl, by rw [if_pos (enT_i.mpr hE)]; exact ⟨rfl, hR1 _ _ hz2⟩⟩
def FV (t : Nat) (I I' : Nat → Nat → Int32) : Prop := ∀ p k, ¬ (p = 51 ∧ (k = 1 ∨ (13 ≤ k ∧ k ≤ 19 ∧ k ≠ 16) ∨ k = 21)) → p ≠ 59 → ¬ (p = 54 ∧ k = t) → ¬ (p = 56 ∧ k = t) → ¬ (p = 53 ∧ 400 * t ≤ k ∧ k < 400 * t + 400) → ¬ (p = 55 ∧ 36 * t ≤ k ∧ k < 36 * t + 36) → I' p k = I p k
theorem q_readsR {x : Nat × (Nat → Int32)} {d : Nat} {I : Nat → Nat → Int32} {J : Nat → Nat → Int64} {R : Nat → Nat → Option Nat} {G : zG} {b : Nat → Nat} {n t : Nat} (hR : Rs R) (hS : Sh G) (ht : t < 6) (hT : TP I b n) (hn : I 51 1 = nI n) (h16 : I 51 16 = nI t) (h56 : I 56 t = 0) : zOk x (d + 11) 145 0 [.ref 51, zU] [] (I, J, R, G) (fun v m => ∃ I', m = (I', J, R, G) ∧ FV t I I' ∧ I' 51 1 = 0 ∧ RdG (RlD t) I' v (rdG (clR b n) b n 13 rs0 (bk b n 0))) := by
  have h400 := hT.1
  refine k_aload f145_0 rfl ?_
  refine k_getr (q := 54) f145_1 hS.o51 rfl hR.r51_4 ?_
  refine k_aload f145_4 rfl ?_
  refine k_gI (w := nI t) f145_5 hS.o51 rfl h16 ?_
  refine k_iconst (v := 0) f145_8 rfl ?_
  refine k_is (k := t) f145_9 hS.a54 rfl (by omega) (by decide) ?_
  refine k_aload f145_10 rfl ?_
  refine k_iconst (v := 0) f145_11 rfl ?_
  refine k_putI f145_12 hS.o51 rfl ?_
  refine k_aload f145_15 rfl ?_
  refine k_iconst (v := 0) f145_16 rfl ?_
  refine k_putI f145_17 hS.o51 rfl ?_
  refine k_aload f145_20 rfl ?_
  refine k_iconst (v := 0) f145_21 rfl ?_
  refine k_putI f145_22 hS.o51 rfl ?_
  refine k_aload f145_25 rfl ?_
  refine k_iconst (v := 0) f145_26 rfl ?_
  refine k_putI f145_27 hS.o51 rfl ?_
  obtain ⟨I1, eI1⟩ : ∃ I1, I1 = z_u (z_u (z_u (z_u (z_u I 54 t 0) 51 19 0) 51 13 0) 51 14 0) 51 17 0 := ⟨_, rfl⟩
  rw [← eI1]
  have f1 : ∀ p k, ¬ (p = 51 ∧ (k = 19 ∨ k = 13 ∨ k = 14 ∨ k = 17)) → ¬ (p = 54 ∧ k = t) → I1 p k = I p k := fun p k h1 h2 => by rw [eI1, z_u_no _ _ (by omega), z_u_no _ _ (by omega), z_u_no _ _ (by omega), z_u_no _ _ (by omega), z_u_no _ _ (by omega)]
  have hT1 : TP I1 b n := hT.keep (fun k => f1 _ _ (by omega) (by omega)) (fun k => f1 _ _ (by omega) (by omega))
  have hx1 : RX I1 n 0 := ⟨by rw [eI1, z_u_k _ _ _ (by decide), z_u_k _ _ _ (by decide), z_u_same]; rfl, by omega, by rw [eI1, z_u_k _ _ _ (by decide), z_u_same], (f1 _ _ (by omega) (by omega)).trans hn⟩
  have hw1 : RlD t rs0 I1 := ⟨(f1 _ _ (by omega) (by omega)).trans h16, by rw [eI1, z_u_k _ _ _ (by decide), z_u_k _ _ _ (by decide), z_u_k _ _ _ (by decide), z_u_same]; rfl, by rw [eI1, z_u_same]; rfl, (f1 _ _ (by omega) (by omega)).trans h56, by rw [eI1, z_u_p _ _ _ _ (by decide), z_u_p _ _ _ _ (by decide), z_u_p _ _ _ _ (by decide), z_u_p _ _ _ _ (by decide), z_u_same]; rfl, fun i hi => absurd hi (Nat.not_lt_zero _), fun i hi => absurd hi (Nat.not_lt_zero _)⟩
  have hcl : ∀ (f : Nat) (s : RTt) (p : Nat) (I : Nat → Nat → Int32), (rsO s ∧ s.1.length + (f + 1) = 13) → s.2.2 ≤ p → TP I b n → RX I n p → RlD t s I → zOk x (d + 6 + 4) 144 0 [.ref 51, zU, zU, zU] [] (I, J, R, G) (fun v mm => ∃ I' w, v = some (.int w) ∧ mm = (I', J, R, G) ∧ FU t I I' ∧ ClG (RlD t) I' n w (clR b n s (bk b n p))) := fun f s p I hs hl hT hx hw => q_clsD (d := d) hR hS ht hT hx hw hs.1 hl
  refine k_aload f145_30 rfl ?_
  refine k_callv (as := []) (rest := []) f145_31 hS.o51 rfl rfl rfl rfl (hcl 12 rs0 0 I1 ⟨rs0_ok, rfl⟩ (Nat.le_refl _) hT1 hx1 hw1) ?_
  rintro _ _ ⟨I2, w2, rfl, rfl, hF2, hC2⟩
  refine k_istore (L' := [.ref 51, .int (w2)]) f145_34 rfl rfl ?_
  refine zOk.imp (lp_readsP (cl := clR b n) (Rel := RlD t) (F := FU t) (Gd := fun f s => rsO s ∧ s.1.length + f = 13) (Po := fun s q => s.2.2 ≤ q) (I0 := I1) (d := d + 6) hR hS hT1 (fun _ _ h => h.fu) (fun _ _ _ a c => a.trans c) (fun _ _ h t => h.tp t) (fun _ _ _ h l => h.lx l) (fun _ _ h => h.p1) (fun _ _ _ h h' => Nat.le_trans h h') (fun s h => by have := h.1.1; omega) (fun f s q z hq h hl hc => by obtain ⟨k1, k2, k3, k4⟩ := clR_ok hq h.1 hl hc; exact ⟨⟨k1, by omega⟩, k3, k4⟩) hcl 12 rs0 (bk b n 0) w2 I2 ⟨rs0_ok, rfl⟩ (bk_le (by omega)).2 (Nat.zero_le _) hF2 hC2) ?_
  rintro v _ ⟨I', I3, rfl, hF3, rfl, hv⟩
  exact ⟨_, rfl, fun p k h1 h2 h3 h4 h5 h6 => (z_u_no _ _ (by omega)).trans ((hF3 p k (by omega) h2 h3 h4 h5 h6).trans (f1 p k (by omega) h3)), z_u_same _ _ _ _, hv⟩
