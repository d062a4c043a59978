/-! TOWN, the pair. -/
theorem inv_town {j pl P y c m ln : Nat} {cf mf : Nat → Nat × Nat × Nat} {I I' : Nat → Nat → Int32} {J J' : Nat → Nat → Int64} {R R' : Nat → Nat → Option Nat} {G G' : zG} (hI : Inv j (I, J, R, G)) (hn : G'.2.2.1 ≤ 71 + 20 * (j + 1)) (ht : G'.2.2.2 ≤ 6106 + 1000 * (j + 1)) (hg : Gk G G') (hi : Kp G I I') (hr : ∀ p k, p < G.2.2.1 → ¬ (p = 17 ∧ k = 0) → R' p k = R p k) (hp : TpV I') (h71 : 71 ≤ pl) (hr0 : R' 17 0 = some pl) (hX : PlX R' G' pl) (ho : tsO (P, y, (c, cf), (m, mf), ln))
    (r0 : I' 62 0 = nI P) (r1 : I' 62 1 = nI c) (r2 : I' 62 2 = nI m) (r3 : I' 62 3 = 0) (r5 : I' 62 5 = I 62 5) (r6 : I' 62 6 = I 62 6) (r7 : I' 62 7 = nI (if y = 0 then 365 else y))
    (rc : ∀ i, i < c → I' 62 (8 + 6 * i) = nI (cf i).1 ∧ I' 62 (8 + 6 * i + 1) = nI (cf i).2.1 ∧ I' 62 (8 + 6 * i + 2) = nI (cf i).2.2 ∧ I' 62 (8 + 6 * i + 3) = (1 : Int32) <<< (nI (cf i).2.1 &&& 31) ∧ I' 62 (8 + 6 * i + 4) = 0 ∧ I' 62 (8 + 6 * i + 5) = 0)
    (rm : ∀ i, i < m → I' 62 (56 + 3 * i) = nI (mf i).1 ∧ I' 62 (56 + 3 * i + 1) = nI (mf i).2.1 ∧ I' 62 (56 + 3 * i + 2) = nI (mf i).2.2) (rt : ∀ i, i < 8 → I' 62 (131 + i) = -1)
    (p0 : I' pl 0 = nI P) (p1 : I' pl 1 = nI (if y = 0 then 365 else y)) (p2 : I' pl 2 = nI c) (p3 : I' pl 3 = nI m)
    (pm : ∀ i, i < m → I' (pl + 4) i = nI (mf i).1 ∧ I' (pl + 5) i = nI (mf i).2.1 ∧ I' (pl + 6) i = nI (mf i).2.2 ∧ I' (pl + 7) i = nI (ordK (fun j => nI (mf j).1) m i))
    (s1 : I' 17 1 = 0) (s2 : I' 17 2 = 0) (s4 : I' 62 4 = 0) (s3 : I' 17 3 = I 17 3) (s5 : I' 17 4 = I 17 4)
    (sc : ∀ i, i < c → I' (19 + i) 0 = nI (cf i).1 ∧ I' (19 + i) 1 = nI (cf i).2.1 ∧ I' (19 + i) 2 = nI (cf i).2.2 ∧ I' (19 + i) 3 = (1 : Int32) <<< (nI (cf i).2.1 &&& 31) ∧ I' (19 + i) 4 = 0 ∧ I' (19 + i) 5 = 0 ∧ I' (19 + i) 6 = -1) : Inv (j + 1) (I', J', R', G') := by
  obtain ⟨pl0, hst⟩ : ∃ pl, StR I R G 17 pl (I 62) := hI.2.2.2.2.2.2.1
  have hO : SOk (I 62) (cl (I 0 4)) := hI.2.2.2.2.2.2.2.1
  have n70 : 71 ≤ G.2.2.1 := hI.1.2
  obtain ⟨o1, o2, o3, o4, o5, o6, o7, o8, o9, o10⟩ := ho
  have o2 : P ≤ 10 := o2
  have o3 : y ≤ 999 := o3
  have o4 : c ≤ 8 := o4
  have o5 : m ≤ 24 := o5
  have q0 : cl (I' 62 0) = P := by rw [r0, cl_nI (by omega)]
  have q1 : cl (I' 62 1) = c := by rw [r1, cl_nI (by omega)]
  have q2 : cl (I' 62 2) = m := by rw [r2, cl_nI (by omega)]
  have y9 : (if y = 0 then 365 else y) < 1000 := by split <;> omega
  refine inv_of hI hn ht hg hi (fun p k hp h1 h2 => hr p k hp (fun z => h1 ⟨Or.inl z.1, z.2⟩)) hp ⟨pl, ?_⟩ ?_
  · obtain ⟨a1, a2, a3, a4⟩ := hst.1
    refine ⟨⟨a1.keep hg, (hr _ _ a1.1 (by omega)).trans a2, a3.keep hg, fun i h => ⟨(hr _ _ a3.1 (by omega)).trans (a4 i h).1, (a4 i h).2.keep hg⟩⟩, hr0, ⟨Or.inr h71, hX.1, hX.2.1, hX.2.2.1, hX.2.2.2⟩, ⟨p0.trans r0.symm, p1.trans r7.symm, p2.trans r1.symm, p3.trans r2.symm, fun i h => ?_⟩, s1.trans r3.symm, s2.trans s4.symm, s3.trans (hst.2.2.2.2.2.2.1.trans r6.symm), s5.trans (hst.2.2.2.2.2.2.2.1.trans r5.symm), fun i h => ?_⟩
    · rw [q2] at h ⊢
      obtain ⟨x1, x2, x3, x4⟩ := pm i h
      obtain ⟨y1, y2, y3⟩ := rm i h
      refine ⟨x1.trans y1.symm, x2.trans y2.symm, x3.trans y3.symm, ?_⟩
      rw [x4, ordK_congr (dy' := fun k => I' 62 (56 + 3 * k)) fun k hk => (rm k hk).1.symm]
    · rw [q1] at h
      obtain ⟨x0, x1, x2, x3, x4, x5, x6⟩ := sc i h
      obtain ⟨z0, z1, z2, z3, z4, z5⟩ := rc i h
      have e : 17 + 2 + i = 19 + i := by omega
      rw [e]
      exact ⟨x0.trans z0.symm, x1.trans z1.symm, x2.trans z2.symm, x3.trans z3.symm, x4.trans z4.symm, x5.trans z5.symm, x6.trans (rt i (by omega)).symm⟩
  · refine ⟨by rw [r0]; exact Rg.of (by omega) (by omega), by rw [r1]; exact Rg.of (by omega) (by omega), by rw [r2]; exact Rg.of (by omega) (by omega), by rw [r3]; exact Rg.of (n := 0) (by omega) (by omega), by rw [r5]; exact hO.2.2.2.2.1, by rw [r6]; exact hO.2.2.2.2.2.1, by rw [r7]; exact Rg.of y9 (by omega), fun i h => ?_, fun i h => ?_⟩
    · rw [q1] at h
      obtain ⟨z0, z1, z2, z3, z4, z5⟩ := rc i h
      have k := o7 i h
      have k1 : 1 ≤ (cf i).1 ∧ (cf i).1 ≤ 99 ∧ (cf i).2.1 < P ∧ (cf i).2.2 ≤ 999 := k
      have h10 : (cf i).2.1 < 10 := by omega
      have e3 : I' 62 (8 + 6 * i + 3) = nI (2 ^ (cf i).2.1) := z3.trans (sh_1 _ (by omega))
      have e31 := p_1024 h10
      refine ⟨by rw [z0]; exact Rg.of (by omega) (by omega), by rw [z1, q0]; exact Rg.of (by omega) (by omega), by rw [z2]; exact Rg.of (by omega) (by omega), by rw [e3]; exact Rg.of (by omega) (by omega), by rw [z4]; exact Rg.of (n := 0) (by omega) (by omega), Or.inl (rt i (by omega)), Or.inl ?_, fun z => ?_, ?_⟩
      · rw [z2, cl_nI (by omega)]; omega
      · rw [z4] at z; exact absurd z (by decide)
      · rw [e3, z1, cl_nI (by omega), cl_nI (by omega), Nat.testBit_two_pow]
        simp
    · rw [q2] at h
      obtain ⟨y1, y2, y3⟩ := rm i h
      have k : (mf i).1 ≤ 1999 ∧ (mf i).2.1 < P ∧ (mf i).2.2 < P ∧ (mf i).2.1 ≠ (mf i).2.2 := o8 i h
      refine ⟨by rw [y1]; exact Rg.of (by omega) (by omega), by rw [y2, q0]; exact Rg.of (by omega) (by omega), by rw [y3, q0]; exact Rg.of (by omega) (by omega), ?_⟩
      rw [y2, y3]
      exact fun z => k.2.2.2 ((nI_eq (by omega) (by omega)).mp z)
/-! the reference reads a TOWN -/
def FZ (I I' : Nat → Nat → Int32) : Prop := ∀ p k, ¬ (p = 51 ∧ (k = 1 ∨ (7 ≤ k ∧ k ≤ 19 ∧ k ≠ 16))) → p ≠ 54 → p ≠ 57 → p ≠ 58 → I' p k = I p k
theorem q_readsT {x : Nat × (Nat → Int32)} {d : Nat} {I : Nat → Nat → Int32} {J : Nat → Nat → Int64} {R : Nat → Nat → Option Nat} {G : zG} {b : Nat → Nat} {n : Nat} (hR : Rs R) (hS : Sh G) (hT : TP I b n) (hn : I 51 1 = nI n) (h16 : I 51 16 = 6) (h7 : I 51 7 = 0) (h8 : I 51 8 = -1) (h9 : I 51 9 = 0) (h10 : I 51 10 = 0) : zOk x (d + 5) 145 0 [.ref 51, zU] [] (I, J, R, G) (fun v m => ∃ I', m = (I', J, R, G) ∧ FZ I I' ∧ I' 51 1 = 0 ∧ RdG (fun s I => TwR I s) I' v (rdT b n 41 ts0 (bk b n 0))) := by
  refine k_aload f145_0 rfl ?_
  refine k_getr (q := 54) f145_1 hS.o51 rfl hR.r51_4 ?_
  refine k_aload f145_4 rfl ?_
  refine k_gI (w := 6) f145_5 hS.o51 rfl h16 ?_
  refine k_iconst (v := 0) f145_8 rfl ?_
  refine k_is (k := 6) f145_9 hS.a54 rfl (by decide) (by decide) ?_
  refine k_aload f145_10 rfl ?_
  refine k_iconst (v := 0) f145_11 rfl ?_
  refine k_putI f145_12 hS.o51 rfl ?_
  refine k_aload f145_15 rfl ?_
  refine k_iconst (v := 0) f145_16 rfl ?_
  refine k_putI f145_17 hS.o51 rfl ?_
  refine k_aload f145_20 rfl ?_
  refine k_iconst (v := 0) f145_21 rfl ?_
  refine k_putI f145_22 hS.o51 rfl ?_
  refine k_aload f145_25 rfl ?_
  refine k_iconst (v := 0) f145_26 rfl ?_
  refine k_putI f145_27 hS.o51 rfl ?_
  obtain ⟨I1, eI1⟩ : ∃ I1, I1 = z_u (z_u (z_u (z_u (z_u I 54 6 0) 51 19 0) 51 13 0) 51 14 0) 51 17 0 := ⟨_, rfl⟩
  rw [← eI1]
  have f1 : ∀ p k, ¬ (p = 51 ∧ (k = 19 ∨ k = 13 ∨ k = 14 ∨ k = 17)) → p ≠ 54 → I1 p k = I p k := fun p k h1 h2 => by rw [eI1, z_u_no _ _ (by omega), z_u_no _ _ (by omega), z_u_no _ _ (by omega), z_u_no _ _ (by omega), z_u_no _ _ (by omega)]
  have hT1 : TP I1 b n := hT.keep (fun k => f1 _ _ (by omega) (by omega)) (fun k => f1 _ _ (by omega) (by omega))
  have hx1 : RX I1 n 0 := ⟨by rw [eI1, z_u_k _ _ _ (by decide), z_u_k _ _ _ (by decide), z_u_same]; rfl, by omega, by rw [eI1, z_u_k _ _ _ (by decide), z_u_same], (f1 _ _ (by omega) (by omega)).trans hn⟩
  have hw1 : TwR I1 ts0 := ⟨(f1 _ _ (by omega) (by omega)).trans h7, (f1 _ _ (by omega) (by omega)).trans h8, (f1 _ _ (by omega) (by omega)).trans h9, (f1 _ _ (by omega) (by omega)).trans h10, (f1 _ _ (by omega) (by omega)).trans h16, by rw [eI1, z_u_k _ _ _ (by decide), z_u_k _ _ _ (by decide), z_u_k _ _ _ (by decide), z_u_same]; rfl, fun i hi => absurd hi (Nat.not_lt_zero _), fun i hi => absurd hi (Nat.not_lt_zero _)⟩
  have hcl : ∀ (f : Nat) (s : TS) (p : Nat) (I : Nat → Nat → Int32), (tsO s ∧ s.2.2.2.2 + (f + 1) = 41) → TP I b n → RX I n p → TwR I s → zOk x (d + 4) 144 0 [.ref 51, zU, zU, zU] [] (I, J, R, G) (fun v mm => ∃ I' w, v = some (.int w) ∧ mm = (I', J, R, G) ∧ FQ I I' ∧ ClG (fun s I => TwR I s) I' n w (clT b n s (bk b n p))) := by
    intro f s p I hs hT hx hw
    obtain ⟨P, y, ⟨c, cf⟩, ⟨m, mf⟩, ln⟩ := s
    refine zOk.imp (q_clauseR (d := d) hR hS hT hx hw hs.1) ?_
    rintro v _ ⟨I', rfl, hf, hv⟩
    cases hc : clT b n (P, y, (c, cf), (m, mf), ln) (bk b n p) with
    | inl e =>
      rw [hc] at hv
      have := clT_e hT.1 (bk_le hx.2.1).2 hc
      exact ⟨I', 0, hv.1, rfl, hf, rfl, hv.2, this.1, this.2⟩
    | inr z =>
      rw [hc] at hv
      exact ⟨I', 1, hv.1, rfl, hf, rfl, hv.2⟩
  refine k_aload f145_30 rfl ?_
  refine k_callv (as := []) (rest := []) f145_31 hS.o51 rfl rfl rfl rfl (hcl 40 ts0 0 I1 ⟨ts0_ok, rfl⟩ hT1 hx1 hw1) ?_
  rintro _ _ ⟨I2, w2, rfl, rfl, hF2, hC2⟩
  refine k_istore (L' := [.ref 51, .int (w2)]) f145_34 rfl rfl ?_
  refine zOk.imp (lp_reads (cl := clT b n) (Rel := fun s I => TwR I s) (F := FQ) (Gd := fun f s => tsO s ∧ s.2.2.2.2 + f = 41) (I0 := I1) (d := d) hR hS hT1 (fun _ _ h => h.fq) (fun _ _ _ a c => a.trans c) (fun _ _ h t => h.tp t) (fun _ _ _ h l => h.lx l) (fun _ _ h => h.keep fun p k hh => z_u_no _ _ (by omega)) (fun s h => by have := h.1.2.2.2.2.2.1; omega) (fun f s q z hq h hc => by obtain ⟨k1, k2, k3⟩ := cl_ok (s' := z.1) (p := z.2) hq h.1 hc; exact ⟨⟨k1, by omega⟩, k3⟩) hcl 40 ts0 (bk b n 0) w2 I2 ⟨ts0_ok, rfl⟩ (bk_le (by omega)).2 hF2 hC2) ?_
  rintro v _ ⟨I', I3, rfl, hF3, rfl, hv⟩
  rw [← rdG_T] at hv
  exact ⟨_, rfl, fun p k h1 h2 h3 h4 => (z_u_no _ _ (by omega)).trans ((hF3 p k (by omega) h3 h4).trans (f1 p k (by omega) h2)), z_u_same _ _ _ _, hv⟩
