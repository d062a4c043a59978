/-! RULES, read in the class: the RULE that is made. -/
def NC (I I' : Nat → Nat → Int32) (R R' : Nat → Nat → Option Nat) (a p k : Nat) : Prop := (∀ i, i < k → I' a i = I p i) ∧ (∀ q j, q ≠ a → I' q j = I q j) ∧ ∀ q j, q ≠ a → R' q j = R q j
theorem q_copyOf {x : Nat × (Nat → Int32)} {d : Nat} {I : Nat → Nat → Int32} {J : Nat → Nat → Int64} {R : Nat → Nat → Option Nat} {G : zG} {p k N : Nat} (hp : za G p 14 N) (hk : k ≤ N) (hN : N ≤ 400) (hr : G.2.2.1 + 1 ≤ 600000 ∧ G.2.2.2 + 400 ≤ 7302250) : zOk x d 213 0 [.ref p, .int (nI k), zU] [] (I, J, R, G) (fun v m => v = some (.ref G.2.2.1) ∧ ∃ I' J' R', m = (I', J', R', zGn G 14 k) ∧ NC I I' R R' G.2.2.1 p k) := by
  have pn : p ≠ G.2.2.1 := Nat.ne_of_lt hp.1
  refine k_iload f213_0 rfl ?_
  refine k_aload f213_1 rfl ?_
  refine k_alen (v := nI N) f213_2 hp rfl rfl ?_
  by_cases he : k = N
  · subst he
    refine k_ic_ne f213_3 (fun h_ => absurd rfl h_) (fun _ => ?_)
    refine k_aload f213_6 rfl ?_
    refine k_clone f213_7 hp ⟨hr.1, by omega⟩ (by decide) ?_
    refine k_castA f213_10 za.new ?_
    exact k_aret f213_13 ⟨rfl, _, _, _, rfl, fun i hi => z_r_same _ _ _ _, fun q j h => by rw [z_r_o _ _ _ h, z_r_o _ _ _ h], fun q j h => z_r_o _ _ _ h⟩
  · refine k_ic_ne f213_3 (fun _ => ?_) (fun h_ => absurd (fun z => he ((nI_eq (by omega) (by omega)).mp z)) h_)
    refine k_iload f213_14 rfl ?_
    refine k_newa (N := k) (kd := 14) f213_15 (nI_pos (by omega)) (nI_clamp (by omega)) (by omega) rfl (by decide) ⟨hr.1, by omega⟩ ?_
    refine k_astore (L' := [.ref p, .int (nI k), .ref G.2.2.1]) f213_17 rfl rfl ?_
    refine k_aload f213_18 rfl ?_
    refine k_iconst (v := 0) f213_19 rfl ?_
    refine k_aload f213_20 rfl ?_
    refine k_iconst (v := 0) f213_21 rfl ?_
    refine k_aload f213_22 rfl ?_
    refine k_alen (v := nI N) f213_23 (hp.keep (Gk.new _ _)) rfl rfl ?_
    refine k_iload f213_24 rfl ?_
    refine k_min f213_25 rfl ?_
    rw [if_pos ((nI_ltI (a := k) (b := N) (by omega) (by omega)).mpr (by omega))]
    refine k_copy (sp' := 0) (dp' := 0) (n' := k) f213_28 (hp.keep (Gk.new _ _)) za.new (by decide) (by decide) (nI_pos (by omega)) rfl rfl (nI_clamp (by omega)) (by omega) (by omega) (by decide) ?_
    refine k_aload f213_31 rfl ?_
    refine k_aret f213_32 ⟨rfl, _, _, _, rfl, fun i hi => ?_, fun q j h => by rw [z_r_o _ _ _ h, z_r_o _ _ _ h], fun q j h => z_r_o _ _ _ h⟩
    rw [z_r_same]
    show (if 0 ≤ i ∧ i < 0 + k then z_r I G.2.2.1 (fun _ => 0) p (0 + (i - 0)) else _) = I p i
    rw [if_pos ⟨by omega, by omega⟩, z_r_o _ _ _ pn]
    congr 1
    omega
theorem s_ruleI {x : Nat × (Nat → Int32)} {d : Nat} {I : Nat → Nat → Int32} {J : Nat → Nat → Int64} {R : Nat → Nat → Option Nat} {G : zG} {r a e c : Nat} (h4 : zo G r 4) : zRn x d 21 [.ref r, .ref a, .ref e, .ref c] (I, J, R, G) (none) (I, J, z_u (z_u (z_u R r 0 (some a)) r 1 (some e)) r 2 (some c), G) := by
  show zOk x d 21 0 [.ref r, .ref a, .ref e, .ref c] [] _ _
  refine k_aload f21_0 rfl ?_
  refine k_objinit f21_1 rfl ?_
  refine k_aload f21_4 rfl ?_
  refine k_aload f21_5 rfl ?_
  refine k_putR f21_6 h4 rfl ?_
  refine k_aload f21_9 rfl ?_
  refine k_aload f21_10 rfl ?_
  refine k_putR f21_11 h4 rfl ?_
  refine k_aload f21_14 rfl ?_
  refine k_aload f21_15 rfl ?_
  refine k_putR f21_16 h4 rfl ?_
  exact k_vret f21_19 ⟨rfl, rfl⟩
theorem fin_brk {x : Nat × (Nat → Int32)} {d : Nat} {J : Nat → Nat → Int64} {R : Nat → Nat → Option Nat} {G : zG} {b : Nat → Nat} {n : Nat} {I : Nat → Nat → Int32} {mo ii : Int32} {kk : Value} {e : Nat} (hR : Rs R) (hS : Sh G) (hT : TP I b n) (hc : CX I b n (.inl e)) : zOk x (d + 1) 24 154 [.ref 12, .int mo, .int ii, kk] [] (I, J, R, G) (fun v mm => v = some .null ∧ ∃ I', mm = (I', J, R, G) ∧ F9 I I' ∧ I' 9 7 = nI (e)) := by
  refine k_aload f24_154 rfl ?_
  refine k_getr (q := 9) f24_155 hS.o12 rfl hR.r12_0 ?_
  refine e_v (as := []) (rest := []) f24_158 hS.o9 rfl rfl rfl (s_isEnd hS hc) ?_
  refine k_bne f24_161 (fun h_ => absurd h_ ((fun z => by cases z))) (fun _ => ?_)
  refine k_aload f24_164 rfl ?_
  refine k_getr (q := 9) f24_165 hS.o12 rfl hR.r12_0 ?_
  refine k_iconst (v := 0) f24_168 rfl ?_
  refine k_callv (as := [.int (0)]) (rest := []) f24_169 hS.o9 rfl rfl rfl rfl (q_fail (b := b) (n := n) (w := 0) hS hT.1 (by omega) hc) ?_
  rintro _ _ ⟨rfl, I1, rfl, ht1, hf1⟩
  refine k_aload f24_172 rfl ?_
  refine k_getr (q := 9) f24_173 hS.o12 rfl hR.r12_0 ?_
  refine k_gI (w := nI e) f24_176 hS.o9 rfl ht1.2.1 ?_
  refine k_if_eq f24_179 (fun h_ => absurd h_ ((fun z => absurd ((nI_eq (b := 0) (by have := ht1.2.2.2.1; omega) (by omega)).mp z) (by have := ht1.2.2.1; omega)))) (fun _ => ?_)
  refine k_null f24_182 ?_
  exact k_nret f24_183 ⟨rfl, I1, rfl, hf1, ht1.2.1⟩
theorem fin_bad {x : Nat × (Nat → Int32)} {d : Nat} {J : Nat → Nat → Int64} {R : Nat → Nat → Option Nat} {G : zG} {b : Nat → Nat} {n : Nat} {I : Nat → Nat → Int32} {mo ii : Int32} {kk : Value} {q : Nat} (hR : Rs R) (hS : Sh G) (hT : TP I b n) (hc : CX I b n (.inr q)) (hE : ¬ enT b n (.inr q) = true) : zOk x (d + 1) 24 154 [.ref 12, .int mo, .int ii, kk] [] (I, J, R, G) (fun v mm => v = some .null ∧ ∃ I', mm = (I', J, R, G) ∧ F9 I I' ∧ I' 9 7 = nI (1 + 8 * q)) := by
  refine k_aload f24_154 rfl ?_
  refine k_getr (q := 9) f24_155 hS.o12 rfl hR.r12_0 ?_
  refine e_v (as := []) (rest := []) f24_158 hS.o9 rfl rfl rfl (s_isEnd hS hc) ?_
  refine k_bne f24_161 (fun h_ => absurd h_ (hE)) (fun _ => ?_)
  refine k_aload f24_164 rfl ?_
  refine k_getr (q := 9) f24_165 hS.o12 rfl hR.r12_0 ?_
  refine k_iconst (v := 0) f24_168 rfl ?_
  refine k_callv (as := [.int (0)]) (rest := []) f24_169 hS.o9 rfl rfl rfl rfl (q_fail (b := b) (n := n) (w := 0) hS hT.1 (by omega) hc) ?_
  rintro _ _ ⟨rfl, I1, rfl, ht1, hf1⟩
  refine k_aload f24_172 rfl ?_
  refine k_getr (q := 9) f24_173 hS.o12 rfl hR.r12_0 ?_
  refine k_gI (w := nI (1 + 8 * q + 0)) f24_176 hS.o9 rfl ht1.2.1 ?_
  refine k_if_eq f24_179 (fun h_ => absurd h_ ((fun z => absurd ((nI_eq (b := 0) (by have := ht1.2.2.2.1; omega) (by omega)).mp z) (by have := ht1.2.2.1; omega)))) (fun _ => ?_)
  refine k_null f24_182 ?_
  exact k_nret f24_183 ⟨rfl, I1, rfl, hf1, ht1.2.1⟩
theorem fin_good {x : Nat × (Nat → Int32)} {d : Nat} {J : Nat → Nat → Int64} {R : Nat → Nat → Option Nat} {G : zG} {b : Nat → Nat} {n : Nat} {I : Nat → Nat → Int32} {mo ii : Int32} {kk : Value} {q s k : Nat} (hR : Rs R) (hS : Sh G) (hT : TP I b n) (hc : CX I b n (.inr q)) (hE : enT b n (.inr q) = true) (h2 : I 12 2 = nI s) (hs : s ≤ 400) (h5 : I 12 5 = nI k) (hk : k ≤ 12) (hr : G.2.2.1 < 400000 ∧ G.2.2.2 < 6000000) : zOk x (d + 1) 24 154 [.ref 12, .int mo, .int ii, kk] [] (I, J, R, G) (fun v mm => v = some (.ref (G.2.2.1 + 1)) ∧ ∃ I' J' R' G', mm = (I', J', R', G') ∧ (∀ p k, p < G.2.2.1 → I' p k = I p k) ∧ (∀ p k, p < G.2.2.1 → R' p k = R p k) ∧ Gk G G' ∧ G'.2.2.1 = G.2.2.1 + 4 ∧ G'.2.2.2 ≤ G.2.2.2 + 500 ∧ RuS R' G' (G.2.2.1 + 1) G.2.2.1 (G.2.2.1 + 2) (G.2.2.1 + 3) s k ∧ (∀ i, i < s → I' G.2.2.1 i = I 13 i) ∧ (∀ i, i < k → I' (G.2.2.1 + 2) i = I 14 i) ∧ ∀ i, i < k → I' (G.2.2.1 + 3) i = I 15 i) := by
  refine k_aload f24_154 rfl ?_
  refine k_getr (q := 9) f24_155 hS.o12 rfl hR.r12_0 ?_
  refine e_v (as := []) (rest := []) f24_158 hS.o9 rfl rfl rfl (s_isEnd hS hc) ?_
  refine k_bne f24_161 (fun _ => ?_) (fun h_ => absurd (hE) h_)
  refine k_aload f24_172 rfl ?_
  refine k_getr (q := 9) f24_173 hS.o12 rfl hR.r12_0 ?_
  refine k_gI (w := 0) f24_176 hS.o9 rfl hc.2.2.2.2.2.1 ?_
  refine k_if_eq f24_179 (fun _ => ?_) (fun h_ => absurd (rfl) h_)
  have n70 : 71 ≤ G.2.2.1 := hS.2
  obtain ⟨g0, eg⟩ : ∃ g0, g0 = G.2.2.1 := ⟨_, rfl⟩
  refine k_aload f24_184 rfl ?_
  refine k_getr (q := 13) f24_185 hS.o12 rfl hR.r12_1 ?_
  refine k_aload f24_188 rfl ?_
  refine k_gI (w := nI s) f24_189 hS.o12 rfl h2 ?_
  refine k_calls (as := [.int (nI s), .ref 13]) (rest := []) f24_192 rfl rfl rfl rfl (q_copyOf (d := d) hS.a13 hs (by omega) ⟨by omega, by omega⟩) ?_
  rintro _ _ ⟨rfl, I1, J1, R1, rfl, c1, c2, c3⟩
  obtain ⟨G1, eG1⟩ : ∃ G1, G1 = zGn G 14 s := ⟨_, rfl⟩
  have z1 : za (zGn G 14 s) G.2.2.1 14 s := za.new
  have g1 : Gk G (zGn G 14 s) := Gk.new _ _
  have n1 : (zGn G 14 s).2.2.1 = G.2.2.1 + 1 := rfl
  have m1 : (zGn G 14 s).2.2.2 = G.2.2.2 + s := rfl
  rw [← eG1] at z1 g1 n1 m1 ⊢
  refine k_astore (L' := [.ref 12, .int mo, .ref G.2.2.1, kk]) f24_195 rfl rfl ?_
  refine k_new f24_196 rfl ⟨by omega, by rw [show z_fn 4 = 3 from rfl]; omega⟩ ?_
  obtain ⟨G2, eG2⟩ : ∃ G2, G2 = zGn G1 4 (z_fn 4) := ⟨_, rfl⟩
  have z2 : zo (zGn G1 4 (z_fn 4)) G1.2.2.1 4 := zo.new
  have g2 : Gk G1 (zGn G1 4 (z_fn 4)) := Gk.new _ _
  have n2 : (zGn G1 4 (z_fn 4)).2.2.1 = G1.2.2.1 + 1 := rfl
  have m2 : (zGn G1 4 (z_fn 4)).2.2.2 = G1.2.2.2 + 3 := rfl
  rw [← eG2] at z2 g2 n2 m2 ⊢
  rw [n1] at z2 ⊢
  have f2 : ∀ p k, p < G.2.2.1 → z_r I1 (G.2.2.1 + 1) (fun _ => 0) p k = I p k := fun p k h => (z_r_o _ _ _ (by omega)).trans (c2 p k (by omega))
  have r2 : ∀ p k, p < G.2.2.1 → z_r R1 (G.2.2.1 + 1) (fun _ => none) p k = R p k := fun p k h => (z_r_o _ _ _ (by omega)).trans (c3 p k (by omega))
  have a2 : ∀ i, i < s → z_r I1 (G.2.2.1 + 1) (fun _ => 0) G.2.2.1 i = I 13 i := fun i h => (z_r_o _ _ _ (by omega)).trans (c1 i h)
  obtain ⟨I2, eI2⟩ : ∃ I2, I2 = z_r I1 (G.2.2.1 + 1) (fun _ => (0 : Int32)) := ⟨_, rfl⟩
  obtain ⟨R2, eR2⟩ : ∃ R2, R2 = z_r R1 (G.2.2.1 + 1) (fun _ => (none : Option Nat)) := ⟨_, rfl⟩
  rw [← eI2] at f2 a2 ⊢
  rw [← eR2] at r2 ⊢
  have hS2 : Sh G2 := hS.keep (g1.trans g2)
  have hR2 : Rs R2 := fun q hq => (r2 _ _ (by have := (by decide : ∀ q ∈ rsL, q.1 < 71) q hq; omega)).trans (hR q hq)
  refine k_dup f24_199 ?_
  refine k_aload f24_200 rfl ?_
  refine k_aload f24_201 rfl ?_
  refine k_getr (q := 14) f24_202 hS2.o12 rfl hR2.r12_3 ?_
  refine k_aload f24_205 rfl ?_
  refine k_gI (w := nI k) f24_206 hS2.o12 rfl ((f2 12 5 (by omega)).trans h5) ?_
  refine k_calls (as := [.int (nI k), .ref 14]) (rest := [.ref G.2.2.1, .ref (G.2.2.1 + 1), .ref (G.2.2.1 + 1)]) f24_209 rfl rfl rfl rfl (q_copyOf (d := d) hS2.a14 hk (by omega) ⟨by omega, by omega⟩) ?_
  rintro _ _ ⟨rfl, I3, J3, R3, rfl, d1, d2, d3⟩
  have n2' : G2.2.2.1 = G.2.2.1 + 2 := by omega
  rw [n2'] at d1 d2 d3 ⊢
  obtain ⟨G3, eG3⟩ : ∃ G3, G3 = zGn G2 14 k := ⟨_, rfl⟩
  have z3 : za (zGn G2 14 k) G2.2.2.1 14 k := za.new
  have g3 : Gk G2 (zGn G2 14 k) := Gk.new _ _
  have n3 : (zGn G2 14 k).2.2.1 = G2.2.2.1 + 1 := rfl
  have m3 : (zGn G2 14 k).2.2.2 = G2.2.2.2 + k := rfl
  rw [← eG3] at z3 g3 n3 m3 ⊢
  rw [n2'] at z3
  have hS3 : Sh G3 := hS2.keep g3
  have hR3 : Rs R3 := fun q hq => (d3 _ _ (by have := (by decide : ∀ q ∈ rsL, q.1 < 71) q hq; omega)).trans (hR2 q hq)
  refine k_aload f24_212 rfl ?_
  refine k_getr (q := 15) f24_213 hS3.o12 rfl hR3.r12_4 ?_
  refine k_aload f24_216 rfl ?_
  refine k_gI (w := nI k) f24_217 hS3.o12 rfl ((d2 12 5 (by omega)).trans ((f2 12 5 (by omega)).trans h5)) ?_
  refine k_calls (as := [.int (nI k), .ref 15]) (rest := [.ref (G.2.2.1 + 2), .ref G.2.2.1, .ref (G.2.2.1 + 1), .ref (G.2.2.1 + 1)]) f24_220 rfl rfl rfl rfl (q_copyOf (d := d) hS3.a15 hk (by omega) ⟨by omega, by omega⟩) ?_
  rintro _ _ ⟨rfl, I4, J4, R4, rfl, e1, e2, e3⟩
  have n3' : G3.2.2.1 = G.2.2.1 + 3 := by omega
  rw [n3'] at e1 e2 e3 ⊢
  obtain ⟨G4, eG4⟩ : ∃ G4, G4 = zGn G3 14 k := ⟨_, rfl⟩
  have z4 : za (zGn G3 14 k) G3.2.2.1 14 k := za.new
  have g4 : Gk G3 (zGn G3 14 k) := Gk.new _ _
  have n4 : (zGn G3 14 k).2.2.1 = G3.2.2.1 + 1 := rfl
  have m4 : (zGn G3 14 k).2.2.2 = G3.2.2.2 + k := rfl
  rw [← eG4] at z4 g4 n4 m4 ⊢
  rw [n3'] at z4
  have z24 := z2.keep (g3.trans g4)
  refine e_i (as := [.ref (G.2.2.1 + 3), .ref (G.2.2.1 + 2), .ref G.2.2.1]) (rest := [.ref (G.2.2.1 + 1)]) f24_223 rfl rfl rfl (s_ruleI (d := d) z24) ?_
  refine k_aret f24_226 ⟨rfl, _, _, _, _, rfl, fun p k h => ?_, fun p k h => ?_, g1.trans (g2.trans (g3.trans g4)), by omega, by omega, ⟨by omega, z24, ?_, ?_, z_u_same _ _ _ _, z1.keep (g2.trans (g3.trans g4)), z3.keep g4, z4, by omega, by omega, by omega, hs, hk⟩, fun i h => ?_, fun i h => ?_, fun i h => ?_⟩
  · exact (e2 p k (by omega)).trans ((d2 p k (by omega)).trans (f2 p k h))
  · rw [z_u_p _ _ _ _ (by omega), z_u_p _ _ _ _ (by omega), z_u_p _ _ _ _ (by omega)]
    exact (e3 p k (by omega)).trans ((d3 p k (by omega)).trans (r2 p k h))
  · rw [z_u_k _ _ _ (by decide), z_u_k _ _ _ (by decide), z_u_same]
  · rw [z_u_k _ _ _ (by decide), z_u_same]
  · exact (e2 _ i (by omega)).trans ((d2 _ i (by omega)).trans (a2 i h))
  · exact (e2 _ i (by omega)).trans ((d1 i h).trans (f2 _ _ (by omega)))
  · exact (e1 i h).trans ((d2 _ _ (by omega)).trans (f2 _ _ (by omega)))
