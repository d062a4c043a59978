/-! A TOWN read, in the class: the whole. -/
def ts0 : TS := (0, 0, (0, fun _ => (0, 0, 0)), (0, fun _ => (0, 0, 0)), 0)
theorem ts0_ok : tsO ts0 := ⟨⟨fun _ => rfl, fun _ => rfl⟩, by decide, by decide, by decide, by decide, by decide, fun i hi => absurd hi (Nat.not_lt_zero _), fun i hi => absurd hi (Nat.not_lt_zero _), fun _ => ⟨rfl, rfl⟩, Or.inl rfl⟩
theorem q_read {x : Nat × (Nat → Int32)} {d : Nat} {I : Nat → Nat → Int32} {J : Nat → Nat → Int64} {R : Nat → Nat → Option Nat} {G : zG} {b : Nat → Nat} {n : Nat} (hR : Rs R) (hS : Sh G) (hT : TP I b n) (hn : I 9 1 = nI n) (hg1 : G.2.2.1 < 400000) (hg2 : G.2.2.2 < 6000000) : zOk x (d + 7) 57 0 [.ref 11, zU, zU] [] (I, J, R, G) (fun v m => ∃ I' J' R' G', m = (I', J', R', G') ∧ (∀ p k, p < G.2.2.1 → p ≠ 9 → p ≠ 11 → I' p k = I p k) ∧ (∀ p k, p < G.2.2.1 → R' p k = R p k) ∧ Gk G G' ∧ G'.2.2.1 = G.2.2.1 + 8 ∧ G'.2.2.2 ≤ G.2.2.2 + 400 ∧ RdP v I' R' G' G.2.2.1 (rdT b n 41 ts0 (bk b n 0))) := by
  have n70 : 71 ≤ G.2.2.1 := hS.2
  obtain ⟨pl, epl⟩ : ∃ pl, pl = G.2.2.1 := ⟨_, rfl⟩
  rw [← epl]
  refine k_new f57_0 rfl ⟨by omega, by rw [show z_fn 3 = 11 from rfl]; omega⟩ ?_
  rw [← epl]
  refine k_dup f57_3 ?_
  have z3 : zo (zGn G 3 (z_fn 3)) G.2.2.1 3 := zo.new
  rw [← epl] at z3
  refine k_calli (as := []) (rest := [.ref pl]) f57_4 rfl rfl rfl rfl (q_newP (pl := pl) (by omega) (by show G.2.2.2 + 11 < 7000000; omega) (by show G.2.2.1 + 1 = pl + 1; omega) z3) ?_
  rintro _ _ ⟨rfl, I2, J2, R2, G2, rfl, hN⟩
  have hg : Gk G G2 := (Gk.new _ _).trans hN.2.2.2.2.2.2
  have fI : ∀ p k, p < pl → I2 p k = I p k := fun p k hp => (hN.2.2.2.2.1 p k (by omega)).trans (z_r_o _ _ _ (by omega))
  have fR : ∀ p k, p < pl → R2 p k = R p k := fun p k hp => (hN.2.2.2.2.2.1 p k hp).trans (z_r_o _ _ _ (by omega))
  have z0 : ∀ k, I2 pl k = 0 := fun k => (hN.2.2.2.2.1 pl k (by omega)).trans (z_r_same _ _ _ _)
  have hS2 : Sh G2 := hS.keep hg
  have hR2 : Rs R2 := fun q hq => (fR _ _ (by have := (by decide : ∀ q ∈ rsL, q.1 < 71) q hq; omega)).trans (hR q hq)
  have hX := hN.x
  have hn1 := hN.1
  have hn2 : G2.2.2.2 ≤ G.2.2.2 + 11 + 24 * 7 := hN.2.1
  refine k_astore (L' := [.ref 11, .ref pl, zU]) f57_7 rfl rfl ?_
  refine k_aload f57_8 rfl ?_
  refine k_iconst (v := 365) f57_9 rfl ?_
  refine k_putI f57_12 hX.1 rfl ?_
  refine k_aload f57_15 rfl ?_
  refine k_iconst (v := 0) f57_16 rfl ?_
  refine k_putI f57_17 hS2.o11 rfl ?_
  refine k_aload f57_20 rfl ?_
  refine k_iconst (v := 0) f57_21 rfl ?_
  refine k_putZ f57_22 hS2.o11 rfl (Or.inl rfl) ?_
  obtain ⟨I3, eI3⟩ : ∃ I3, I3 = z_u (z_u (z_u I2 pl 1 365) 11 1 0) 11 2 0 := ⟨_, rfl⟩
  rw [← eI3]
  have f3 : FP pl I2 I3 := fun p k h1 h2 h3 => by rw [eI3, z_u_p _ _ _ _ h2, z_u_p _ _ _ _ h2, z_u_p _ _ _ _ (by omega)]
  have n3 : I3 9 1 = nI n := by rw [eI3, z_u_p _ _ _ _ (by omega), z_u_p _ _ _ _ (by omega), z_u_p _ _ _ _ (by omega), fI _ _ (by omega)]; exact hn
  have hT2 : TP I2 b n := hT.keep (fun k => fI _ _ (by omega)) (fun k => fI _ _ (by omega))
  have hT3 : TP I3 b n := f3.tp (by omega) hT2
  have hw3 : TwC I3 R2 G2 pl ts0 := by
    refine ⟨hX, by omega, ?_, ?_, ?_, ?_, fun i hi => absurd hi (Nat.not_lt_zero _), fun i hi => absurd hi (Nat.not_lt_zero _), ?_, ?_⟩
    · rw [eI3, z_u_p _ _ _ _ (by omega), z_u_p _ _ _ _ (by omega), z_u_k _ _ _ (by decide)]; exact z0 0
    · rw [eI3, z_u_p _ _ _ _ (by omega), z_u_p _ _ _ _ (by omega), z_u_same]; rfl
    · rw [eI3, z_u_p _ _ _ _ (by omega), z_u_p _ _ _ _ (by omega), z_u_k _ _ _ (by decide)]; exact z0 2
    · rw [eI3, z_u_p _ _ _ _ (by omega), z_u_p _ _ _ _ (by omega), z_u_k _ _ _ (by decide)]; exact z0 3
    · rw [eI3, z_u_k _ _ _ (by decide), z_u_same]; rfl
    · rw [eI3, z_u_same]; exact (bI_v0 (by decide)).symm
  refine k_aload f57_25 rfl ?_
  refine k_getr (q := 9) f57_26 hS2.o11 rfl hR2.r11_0 ?_
  refine k_callv (as := []) (rest := []) f57_29 hS2.o9 rfl rfl rfl rfl (q_begin hR2 hS2 hT3 n3) ?_
  rintro _ _ ⟨rfl, I4, rfl, ht4, hf4⟩
  have hT4 := hf4.tp hT3
  have hw4 : TwC I4 R2 G2 pl ts0 := hw3.keep fun p k h => hf4 p k (by omega)
  refine k_aload f57_32 rfl ?_
  refine k_aload f57_33 rfl ?_
  refine k_callv (as := [.ref pl]) (rest := []) f57_34 hS2.o11 rfl rfl rfl rfl (q_clauseC (q := bk b n 0) (P := 0) (y := 0) (c := 0) (m := 0) (ln := 0) hR2 hS2 hT4 ht4 hw4 ts0_ok) ?_
  rintro _ _ ⟨rfl, I5, rfl, hf5, hC5⟩
  refine k_iconst (v := 0) f57_37 rfl ?_
  refine k_istore (L' := [.ref 11, .ref pl, .int (0)]) f57_38 rfl rfl ?_
  refine zOk.imp (lp_read (I0 := I5) (d := d) hR2 hS2 (hf5.tp (by omega) hT4) (by omega) 40 ts0 (bk b n 0) 0 I5 rfl rfl ht4.2.2.2.2.2.2.2 ts0_ok (fun _ _ _ _ _ => rfl) hC5) ?_
  rintro v _ ⟨I6, rfl, hf6, hv⟩
  exact ⟨I6, J2, R2, G2, rfl, fun p k hp h1 h2 => (hf6 p k h1 h2 (by omega)).trans ((hf5 p k h1 h2 (by omega)).trans ((hf4 p k h1).trans ((f3 p k h1 h2 (by omega)).trans (fI p k (by omega))))), fun p k hp => fR p k (by omega), hg, by omega, by omega, hv⟩
