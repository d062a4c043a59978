/-! TEXT: next. -/
theorem s_next0 {x : Nat × (Nat → Int32)} {d : Nat} {I : Nat → Nat → Int32} {J : Nat → Nat → Int64} {R : Nat → Nat → Option Nat} {G : zG} {b : Nat → Nat} {n p : Nat} (hR : Rs R) (hS : Sh G) (hT : TP I b n) (hn : I 9 1 = nI n) (h4 : ¬ I 9 4 = 4) (h3 : I 9 3 = nI p) (hp : p ≤ n) (h7 : I 9 7 = 0) : zOk x d 49 0 [.ref 9, zU] [] (I, J, R, G) (fun v m => v = none ∧ ∃ I', m = (I', J, R, G) ∧ TK I' b n (bk b n p) ∧ F9 I I') := by
  have h400 := hT.1
  refine k_aload f49_0 rfl ?_
  refine k_gI (w := I 9 4) f49_1 hS.o9 rfl rfl ?_
  refine k_iconst (v := 4) f49_4 rfl ?_
  refine k_ic_ne f49_5 (fun _ => ?_) (fun h_ => absurd (h4) h_)
  refine k_aload f49_9 rfl ?_
  refine k_gI (w := nI p) f49_10 hS.o9 rfl h3 ?_
  refine k_istore (L' := [.ref 9, .int (nI p)]) f49_13 rfl rfl ?_
  refine lp_blank hR hS hT hn (n - p) p (by omega) ?_
  obtain ⟨q, eq⟩ : ∃ q, q = bk b n p := ⟨_, rfl⟩
  rw [← eq]
  have hqn : q ≤ n := by rw [eq]; exact (bk_le hp).2
  refine k_aload f49_39 rfl ?_
  refine k_iload f49_40 rfl ?_
  refine k_putI f49_41 hS.o9 rfl ?_
  refine k_aload f49_44 rfl ?_
  refine k_iconst (v := 1) f49_45 rfl ?_
  refine k_putI f49_46 hS.o9 rfl ?_
  obtain ⟨I1, eI1⟩ : ∃ I1, I1 = z_u (z_u I 9 2 (nI q)) 9 4 1 := ⟨_, rfl⟩
  rw [← eI1]
  have hf1 : F9 I I1 := fun p k h => by rw [eI1, z_u_p _ _ _ _ h, z_u_p _ _ _ _ h]
  have a1 : I1 9 1 = nI n := by rw [eI1, z_u_k _ _ _ (by decide), z_u_k _ _ _ (by decide)]; exact hn
  have a2 : I1 9 2 = nI q := by rw [eI1, z_u_k _ _ _ (by decide), z_u_same]
  have a4 : I1 9 4 = 1 := by rw [eI1, z_u_same]
  have a7 : I1 9 7 = 0 := by rw [eI1, z_u_k _ _ _ (by decide), z_u_k _ _ _ (by decide)]; exact h7
  have hT1 : TP I1 b n := hf1.tp hT
  refine lp_letters hR hS hT1 a1 (n - q) q (by omega) ?_
  by_cases hL : isL b n q = true
  · have w1 := wl_lt hL
    have w2 := (wl_le (b := b) hqn).2
    have ekd : kd b n q = 1 := if_pos hL
    have eed : ed b n q = wl b n q := if_pos hL
    refine k_iload f49_85 rfl ?_
    refine k_aload f49_86 rfl ?_
    refine k_gI (w := nI q) f49_87 hS.o9 rfl a2 ?_
    refine k_ic_ne f49_90 (fun _ => ?_) (fun h_ => absurd ((fun z => absurd ((nI_eq (by omega) (by omega)).mp z) (by omega))) h_)
    refine k_iload f49_174 rfl ?_
    refine k_aload f49_175 rfl ?_
    refine k_gI (w := nI q) f49_176 hS.o9 rfl a2 ?_
    refine k_ic_ne f49_179 (fun _ => ?_) (fun h_ => absurd ((fun z => absurd ((nI_eq (by omega) (by omega)).mp z) (by omega))) h_)
    refine k_aload f49_265 rfl ?_
    refine k_iload f49_266 rfl ?_
    refine k_putI f49_267 hS.o9 rfl ?_
    exact k_vret f49_270 ⟨rfl, _, rfl, ⟨(Eq.trans (z_u_k _ _ _ (by decide)) a2), (z_u_same _ _ _ _).trans (congrArg nI eed.symm), (Eq.trans (z_u_k _ _ _ (by decide)) a4).trans (congrArg nI ekd.symm), fun h => absurd (ekd.symm.trans h) (by decide), fun h => absurd (ekd.symm.trans h) (by decide), (Eq.trans (z_u_k _ _ _ (by decide)) a7), (Eq.trans (z_u_k _ _ _ (by decide)) a1), hqn⟩, fun p k h => (z_u_p _ _ _ _ h).trans (hf1 p k h)⟩
  · rw [show wl b n q = q from rE_n hL]
    refine k_iload f49_85 rfl ?_
    refine k_aload f49_86 rfl ?_
    refine k_gI (w := nI q) f49_87 hS.o9 rfl a2 ?_
    refine k_ic_ne f49_90 (fun h_ => absurd (rfl) h_) (fun _ => ?_)
    refine k_aload f49_93 rfl ?_
    refine k_iconst (v := 2) f49_94 rfl ?_
    refine k_putI f49_95 hS.o9 rfl ?_
    refine k_aload f49_98 rfl ?_
    refine k_iconst (v := 0) f49_99 rfl ?_
    refine k_putI f49_100 hS.o9 rfl ?_
    obtain ⟨I2, eI2⟩ : ∃ I2, I2 = z_u (z_u I1 9 4 2) 9 6 0 := ⟨_, rfl⟩
    rw [← eI2]
    have hf2 : F9 I I2 := fun p k h => by rw [eI2, z_u_p _ _ _ _ h, z_u_p _ _ _ _ h]; exact hf1 p k h
    have c1 : I2 9 1 = nI n := by rw [eI2, z_u_k _ _ _ (by decide), z_u_k _ _ _ (by decide)]; exact a1
    have c2 : I2 9 2 = nI q := by rw [eI2, z_u_k _ _ _ (by decide), z_u_k _ _ _ (by decide)]; exact a2
    have c4 : I2 9 4 = 2 := by rw [eI2, z_u_k _ _ _ (by decide), z_u_same]
    have c6 : I2 9 6 = nvA b q q := by rw [eI2, z_u_same]; unfold nvA; rw [Nat.sub_self]; rfl
    have c7 : I2 9 7 = 0 := by rw [eI2, z_u_k _ _ _ (by decide), z_u_k _ _ _ (by decide)]; exact a7
    have hT2 : TP I2 b n := hf2.tp hT
    refine lp_digits (I0 := I2) hR hS hT2 c1 c2 (n - q) q I2 (by omega) (by omega) (fun _ _ _ => rfl) c6 (fun I3 g3 g6 => ?_)
    have hf2 : F9 I I3 := fun p k h => (g3 p k (by omega)).trans (hf2 p k h)
    have c1 : I3 9 1 = nI n := (g3 _ _ (by omega)).trans c1
    have c2 : I3 9 2 = nI q := (g3 _ _ (by omega)).trans c2
    have c4 : I3 9 4 = 2 := (g3 _ _ (by omega)).trans c4
    have c7 : I3 9 7 = 0 := (g3 _ _ (by omega)).trans c7
    have hT3 : TP I3 b n := hf2.tp hT
    by_cases hD : isD b n q = true
    · have w1 := dg_lt hD
      have w2 := (dg_le (b := b) hqn).2
      have ekd : kd b n q = 2 := (if_neg hL).trans (if_pos hD)
      have eed : ed b n q = dg b n q := (if_neg hL).trans (if_pos hD)
      refine k_iload f49_174 rfl ?_
      refine k_aload f49_175 rfl ?_
      refine k_gI (w := nI q) f49_176 hS.o9 rfl c2 ?_
      refine k_ic_ne f49_179 (fun _ => ?_) (fun h_ => absurd ((fun z => absurd ((nI_eq (by omega) (by omega)).mp z) (by omega))) h_)
      refine k_aload f49_265 rfl ?_
      refine k_iload f49_266 rfl ?_
      refine k_putI f49_267 hS.o9 rfl ?_
      exact k_vret f49_270 ⟨rfl, _, rfl, ⟨(Eq.trans (z_u_k _ _ _ (by decide)) c2), (z_u_same _ _ _ _).trans (congrArg nI eed.symm), (Eq.trans (z_u_k _ _ _ (by decide)) c4).trans (congrArg nI ekd.symm), fun h => absurd (ekd.symm.trans h) (by decide), fun _ => (Eq.trans (z_u_k _ _ _ (by decide)) g6), (Eq.trans (z_u_k _ _ _ (by decide)) c7), (Eq.trans (z_u_k _ _ _ (by decide)) c1), hqn⟩, fun p k h => (z_u_p _ _ _ _ h).trans (hf2 p k h)⟩
    · rw [show dg b n q = q from rE_n hD] at *
      by_cases hE : q < n
      · have ekd : kd b n q = 3 := (if_neg hL).trans ((if_neg hD).trans (if_pos hE))
        have eed0 : ed b n q = if sgB b n q = true then q + 2 else q + 1 := (if_neg hL).trans ((if_neg hD).trans (if_pos hE))
        have b8 := (hT.2 q (by omega)).1
        by_cases h60 : b q = 60
        · by_cases h1 : q + 1 < n
          · have b9 := (hT.2 (q + 1) (by omega)).1
            by_cases h61 : b (q + 1) = 61
            · have es : sgB b n q = true := decide_eq_true ⟨Or.inl h60, h1, h61⟩
              have eed : ed b n q = q + 2 := eed0.trans (if_pos es)
              have esg : sg b n q = b q + 256 := if_pos es
              refine k_iload f49_174 rfl ?_
              refine k_aload f49_175 rfl ?_
              refine k_gI (w := nI q) f49_176 hS.o9 rfl c2 ?_
              refine k_ic_ne f49_179 (fun h_ => absurd (rfl) h_) (fun _ => ?_)
              refine k_aload f49_182 rfl ?_
              refine k_iconst (v := 0) f49_183 rfl ?_
              refine k_putI f49_184 hS.o9 rfl ?_
              refine k_iload f49_187 rfl ?_
              refine k_aload f49_188 rfl ?_
              refine k_gI (w := nI n) f49_189 hS.o9 rfl (Eq.trans (z_u_k _ _ _ (by decide)) c1) ?_
              refine k_ic_ge f49_192 (fun h_ => absurd h_ (nI_ge hE (by omega))) (fun _ => ?_)
              refine k_aload f49_195 rfl ?_
              refine k_iconst (v := 3) f49_196 rfl ?_
              refine k_putI f49_197 hS.o9 rfl ?_
              refine k_aload f49_200 rfl ?_
              refine k_aload f49_201 rfl ?_
              refine k_getr (q := 10) f49_202 hS.o9 rfl hR.r9_0 ?_
              refine k_iload f49_205 rfl ?_
              refine k_ca (k := q) (w := nI (b q)) f49_206 hS.a10 rfl (by omega) (by decide) (Eq.trans (z_u_p _ _ _ _ (by decide)) (Eq.trans (z_u_p _ _ _ _ (by decide)) (hT3.2 q (by omega)).2.1)) ?_
              refine k_putI f49_207 hS.o9 rfl ?_
              refine k_iinc (w := nI (q + 1)) (L' := [.ref 9, .int (nI (q + 1))]) f49_210 rfl (nI_1 q) rfl rfl ?_
              refine k_aload f49_213 rfl ?_
              refine k_gI (w := nI (b q)) f49_214 hS.o9 rfl (z_u_same _ _ _ _) ?_
              refine k_iconst (v := 60) f49_217 rfl ?_
              refine k_ic_eq f49_219 (fun _ => ?_) (fun h_ => absurd (congrArg nI h60) h_)
              refine k_iload f49_231 rfl ?_
              refine k_aload f49_232 rfl ?_
              refine k_gI (w := nI n) f49_233 hS.o9 rfl (Eq.trans (z_u_k _ _ _ (by decide)) (Eq.trans (z_u_k _ _ _ (by decide)) (Eq.trans (z_u_k _ _ _ (by decide)) c1))) ?_
              refine k_ic_ge f49_236 (fun h_ => absurd h_ (nI_ge h1 (by omega))) (fun _ => ?_)
              refine k_aload f49_239 rfl ?_
              refine k_getr (q := 10) f49_240 hS.o9 rfl hR.r9_0 ?_
              refine k_iload f49_243 rfl ?_
              refine k_ca (k := (q + 1)) (w := nI (b (q + 1))) f49_244 hS.a10 rfl (by omega) (by decide) (Eq.trans (z_u_p _ _ _ _ (by decide)) (Eq.trans (z_u_p _ _ _ _ (by decide)) (Eq.trans (z_u_p _ _ _ _ (by decide)) (hT3.2 (q + 1) (by omega)).2.1))) ?_
              refine k_iconst (v := 61) f49_245 rfl ?_
              refine k_ic_ne f49_247 (fun h_ => absurd (congrArg nI h61) h_) (fun _ => ?_)
              refine k_aload f49_250 rfl ?_
              refine k_dup f49_251 ?_
              refine k_gI (w := nI (b q)) f49_252 hS.o9 rfl (z_u_same _ _ _ _) ?_
              refine k_iconst (v := 256) f49_255 rfl ?_
              refine k_iadd f49_258 ?_
              rw [show nI (b q) + 256 = nI (b q + 256) from nI_add _ 256]
              refine k_putI f49_259 hS.o9 rfl ?_
              refine k_iinc (w := nI ((q + 1) + 1)) (L' := [.ref 9, .int (nI ((q + 1) + 1))]) f49_262 rfl (nI_1 (q + 1)) rfl rfl ?_
              refine k_aload f49_265 rfl ?_
              refine k_iload f49_266 rfl ?_
              refine k_putI f49_267 hS.o9 rfl ?_
              exact k_vret f49_270 ⟨rfl, _, rfl, ⟨(Eq.trans (z_u_k _ _ _ (by decide)) (Eq.trans (z_u_k _ _ _ (by decide)) (Eq.trans (z_u_k _ _ _ (by decide)) (Eq.trans (z_u_k _ _ _ (by decide)) (Eq.trans (z_u_k _ _ _ (by decide)) c2))))), (z_u_same _ _ _ _).trans (congrArg nI eed.symm), (Eq.trans (z_u_k _ _ _ (by decide)) (Eq.trans (z_u_k _ _ _ (by decide)) (Eq.trans (z_u_k _ _ _ (by decide)) (z_u_same _ _ _ _)))).trans (congrArg nI ekd.symm), fun _ => (Eq.trans (z_u_k _ _ _ (by decide)) (z_u_same _ _ _ _)).trans (congrArg nI esg.symm), fun h => absurd (ekd.symm.trans h) (by decide), (Eq.trans (z_u_k _ _ _ (by decide)) (Eq.trans (z_u_k _ _ _ (by decide)) (Eq.trans (z_u_k _ _ _ (by decide)) (Eq.trans (z_u_k _ _ _ (by decide)) (Eq.trans (z_u_k _ _ _ (by decide)) c7))))), (Eq.trans (z_u_k _ _ _ (by decide)) (Eq.trans (z_u_k _ _ _ (by decide)) (Eq.trans (z_u_k _ _ _ (by decide)) (Eq.trans (z_u_k _ _ _ (by decide)) (Eq.trans (z_u_k _ _ _ (by decide)) c1))))), hqn⟩, fun p k h => (z_u_p _ _ _ _ h).trans ((z_u_p _ _ _ _ h).trans ((z_u_p _ _ _ _ h).trans ((z_u_p _ _ _ _ h).trans ((z_u_p _ _ _ _ h).trans (hf2 p k h)))))⟩
            · have es : ¬ sgB b n q = true := fun z => h61 (of_decide_eq_true z).2.2
              have eed : ed b n q = q + 1 := eed0.trans (if_neg es)
              have esg : sg b n q = b q := if_neg es
              refine k_iload f49_174 rfl ?_
              refine k_aload f49_175 rfl ?_
              refine k_gI (w := nI q) f49_176 hS.o9 rfl c2 ?_
              refine k_ic_ne f49_179 (fun h_ => absurd (rfl) h_) (fun _ => ?_)
              refine k_aload f49_182 rfl ?_
              refine k_iconst (v := 0) f49_183 rfl ?_
              refine k_putI f49_184 hS.o9 rfl ?_
              refine k_iload f49_187 rfl ?_
              refine k_aload f49_188 rfl ?_
              refine k_gI (w := nI n) f49_189 hS.o9 rfl (Eq.trans (z_u_k _ _ _ (by decide)) c1) ?_
              refine k_ic_ge f49_192 (fun h_ => absurd h_ (nI_ge hE (by omega))) (fun _ => ?_)
              refine k_aload f49_195 rfl ?_
              refine k_iconst (v := 3) f49_196 rfl ?_
              refine k_putI f49_197 hS.o9 rfl ?_
              refine k_aload f49_200 rfl ?_
              refine k_aload f49_201 rfl ?_
              refine k_getr (q := 10) f49_202 hS.o9 rfl hR.r9_0 ?_
              refine k_iload f49_205 rfl ?_
              refine k_ca (k := q) (w := nI (b q)) f49_206 hS.a10 rfl (by omega) (by decide) (Eq.trans (z_u_p _ _ _ _ (by decide)) (Eq.trans (z_u_p _ _ _ _ (by decide)) (hT3.2 q (by omega)).2.1)) ?_
              refine k_putI f49_207 hS.o9 rfl ?_
              refine k_iinc (w := nI (q + 1)) (L' := [.ref 9, .int (nI (q + 1))]) f49_210 rfl (nI_1 q) rfl rfl ?_
              refine k_aload f49_213 rfl ?_
              refine k_gI (w := nI (b q)) f49_214 hS.o9 rfl (z_u_same _ _ _ _) ?_
              refine k_iconst (v := 60) f49_217 rfl ?_
              refine k_ic_eq f49_219 (fun _ => ?_) (fun h_ => absurd (congrArg nI h60) h_)
              refine k_iload f49_231 rfl ?_
              refine k_aload f49_232 rfl ?_
              refine k_gI (w := nI n) f49_233 hS.o9 rfl (Eq.trans (z_u_k _ _ _ (by decide)) (Eq.trans (z_u_k _ _ _ (by decide)) (Eq.trans (z_u_k _ _ _ (by decide)) c1))) ?_
              refine k_ic_ge f49_236 (fun h_ => absurd h_ (nI_ge h1 (by omega))) (fun _ => ?_)
              refine k_aload f49_239 rfl ?_
              refine k_getr (q := 10) f49_240 hS.o9 rfl hR.r9_0 ?_
              refine k_iload f49_243 rfl ?_
              refine k_ca (k := (q + 1)) (w := nI (b (q + 1))) f49_244 hS.a10 rfl (by omega) (by decide) (Eq.trans (z_u_p _ _ _ _ (by decide)) (Eq.trans (z_u_p _ _ _ _ (by decide)) (Eq.trans (z_u_p _ _ _ _ (by decide)) (hT3.2 (q + 1) (by omega)).2.1))) ?_
              refine k_iconst (v := 61) f49_245 rfl ?_
              refine k_ic_ne f49_247 (fun _ => ?_) (fun h_ => absurd ((fun z => h61 ((nI_eq (b := 61) (by omega) (by omega)).mp z))) h_)
              refine k_aload f49_265 rfl ?_
              refine k_iload f49_266 rfl ?_
              refine k_putI f49_267 hS.o9 rfl ?_
              exact k_vret f49_270 ⟨rfl, _, rfl, ⟨(Eq.trans (z_u_k _ _ _ (by decide)) (Eq.trans (z_u_k _ _ _ (by decide)) (Eq.trans (z_u_k _ _ _ (by decide)) (Eq.trans (z_u_k _ _ _ (by decide)) c2)))), (z_u_same _ _ _ _).trans (congrArg nI eed.symm), (Eq.trans (z_u_k _ _ _ (by decide)) (Eq.trans (z_u_k _ _ _ (by decide)) (z_u_same _ _ _ _))).trans (congrArg nI ekd.symm), fun _ => (Eq.trans (z_u_k _ _ _ (by decide)) (z_u_same _ _ _ _)).trans (congrArg nI esg.symm), fun h => absurd (ekd.symm.trans h) (by decide), (Eq.trans (z_u_k _ _ _ (by decide)) (Eq.trans (z_u_k _ _ _ (by decide)) (Eq.trans (z_u_k _ _ _ (by decide)) (Eq.trans (z_u_k _ _ _ (by decide)) c7)))), (Eq.trans (z_u_k _ _ _ (by decide)) (Eq.trans (z_u_k _ _ _ (by decide)) (Eq.trans (z_u_k _ _ _ (by decide)) (Eq.trans (z_u_k _ _ _ (by decide)) c1)))), hqn⟩, fun p k h => (z_u_p _ _ _ _ h).trans ((z_u_p _ _ _ _ h).trans ((z_u_p _ _ _ _ h).trans ((z_u_p _ _ _ _ h).trans (hf2 p k h))))⟩
          · have es : ¬ sgB b n q = true := fun z => h1 (of_decide_eq_true z).2.1
            have eed : ed b n q = q + 1 := eed0.trans (if_neg es)
            have esg : sg b n q = b q := if_neg es
            refine k_iload f49_174 rfl ?_
            refine k_aload f49_175 rfl ?_
            refine k_gI (w := nI q) f49_176 hS.o9 rfl c2 ?_
            refine k_ic_ne f49_179 (fun h_ => absurd (rfl) h_) (fun _ => ?_)
            refine k_aload f49_182 rfl ?_
            refine k_iconst (v := 0) f49_183 rfl ?_
            refine k_putI f49_184 hS.o9 rfl ?_
            refine k_iload f49_187 rfl ?_
            refine k_aload f49_188 rfl ?_
            refine k_gI (w := nI n) f49_189 hS.o9 rfl (Eq.trans (z_u_k _ _ _ (by decide)) c1) ?_
            refine k_ic_ge f49_192 (fun h_ => absurd h_ (nI_ge hE (by omega))) (fun _ => ?_)
            refine k_aload f49_195 rfl ?_
            refine k_iconst (v := 3) f49_196 rfl ?_
            refine k_putI f49_197 hS.o9 rfl ?_
            refine k_aload f49_200 rfl ?_
            refine k_aload f49_201 rfl ?_
            refine k_getr (q := 10) f49_202 hS.o9 rfl hR.r9_0 ?_
            refine k_iload f49_205 rfl ?_
            refine k_ca (k := q) (w := nI (b q)) f49_206 hS.a10 rfl (by omega) (by decide) (Eq.trans (z_u_p _ _ _ _ (by decide)) (Eq.trans (z_u_p _ _ _ _ (by decide)) (hT3.2 q (by omega)).2.1)) ?_
            refine k_putI f49_207 hS.o9 rfl ?_
            refine k_iinc (w := nI (q + 1)) (L' := [.ref 9, .int (nI (q + 1))]) f49_210 rfl (nI_1 q) rfl rfl ?_
            refine k_aload f49_213 rfl ?_
            refine k_gI (w := nI (b q)) f49_214 hS.o9 rfl (z_u_same _ _ _ _) ?_
            refine k_iconst (v := 60) f49_217 rfl ?_
            refine k_ic_eq f49_219 (fun _ => ?_) (fun h_ => absurd (congrArg nI h60) h_)
            refine k_iload f49_231 rfl ?_
            refine k_aload f49_232 rfl ?_
            refine k_gI (w := nI n) f49_233 hS.o9 rfl (Eq.trans (z_u_k _ _ _ (by decide)) (Eq.trans (z_u_k _ _ _ (by decide)) (Eq.trans (z_u_k _ _ _ (by decide)) c1))) ?_
            refine k_ic_ge f49_236 (fun _ => ?_) (fun h_ => absurd (nI_le (by omega) (by omega)) h_)
            refine k_aload f49_265 rfl ?_
            refine k_iload f49_266 rfl ?_
            refine k_putI f49_267 hS.o9 rfl ?_
            exact k_vret f49_270 ⟨rfl, _, rfl, ⟨(Eq.trans (z_u_k _ _ _ (by decide)) (Eq.trans (z_u_k _ _ _ (by decide)) (Eq.trans (z_u_k _ _ _ (by decide)) (Eq.trans (z_u_k _ _ _ (by decide)) c2)))), (z_u_same _ _ _ _).trans (congrArg nI eed.symm), (Eq.trans (z_u_k _ _ _ (by decide)) (Eq.trans (z_u_k _ _ _ (by decide)) (z_u_same _ _ _ _))).trans (congrArg nI ekd.symm), fun _ => (Eq.trans (z_u_k _ _ _ (by decide)) (z_u_same _ _ _ _)).trans (congrArg nI esg.symm), fun h => absurd (ekd.symm.trans h) (by decide), (Eq.trans (z_u_k _ _ _ (by decide)) (Eq.trans (z_u_k _ _ _ (by decide)) (Eq.trans (z_u_k _ _ _ (by decide)) (Eq.trans (z_u_k _ _ _ (by decide)) c7)))), (Eq.trans (z_u_k _ _ _ (by decide)) (Eq.trans (z_u_k _ _ _ (by decide)) (Eq.trans (z_u_k _ _ _ (by decide)) (Eq.trans (z_u_k _ _ _ (by decide)) c1)))), hqn⟩, fun p k h => (z_u_p _ _ _ _ h).trans ((z_u_p _ _ _ _ h).trans ((z_u_p _ _ _ _ h).trans ((z_u_p _ _ _ _ h).trans (hf2 p k h))))⟩
        · by_cases h62 : b q = 62
          · by_cases h1 : q + 1 < n
            · have b9 := (hT.2 (q + 1) (by omega)).1
              by_cases h61 : b (q + 1) = 61
              · have es : sgB b n q = true := decide_eq_true ⟨Or.inr h62, h1, h61⟩
                have eed : ed b n q = q + 2 := eed0.trans (if_pos es)
                have esg : sg b n q = b q + 256 := if_pos es
                refine k_iload f49_174 rfl ?_
                refine k_aload f49_175 rfl ?_
                refine k_gI (w := nI q) f49_176 hS.o9 rfl c2 ?_
                refine k_ic_ne f49_179 (fun h_ => absurd (rfl) h_) (fun _ => ?_)
                refine k_aload f49_182 rfl ?_
                refine k_iconst (v := 0) f49_183 rfl ?_
                refine k_putI f49_184 hS.o9 rfl ?_
                refine k_iload f49_187 rfl ?_
                refine k_aload f49_188 rfl ?_
                refine k_gI (w := nI n) f49_189 hS.o9 rfl (Eq.trans (z_u_k _ _ _ (by decide)) c1) ?_
                refine k_ic_ge f49_192 (fun h_ => absurd h_ (nI_ge hE (by omega))) (fun _ => ?_)
                refine k_aload f49_195 rfl ?_
                refine k_iconst (v := 3) f49_196 rfl ?_
                refine k_putI f49_197 hS.o9 rfl ?_
                refine k_aload f49_200 rfl ?_
                refine k_aload f49_201 rfl ?_
                refine k_getr (q := 10) f49_202 hS.o9 rfl hR.r9_0 ?_
                refine k_iload f49_205 rfl ?_
                refine k_ca (k := q) (w := nI (b q)) f49_206 hS.a10 rfl (by omega) (by decide) (Eq.trans (z_u_p _ _ _ _ (by decide)) (Eq.trans (z_u_p _ _ _ _ (by decide)) (hT3.2 q (by omega)).2.1)) ?_
                refine k_putI f49_207 hS.o9 rfl ?_
                refine k_iinc (w := nI (q + 1)) (L' := [.ref 9, .int (nI (q + 1))]) f49_210 rfl (nI_1 q) rfl rfl ?_
                refine k_aload f49_213 rfl ?_
                refine k_gI (w := nI (b q)) f49_214 hS.o9 rfl (z_u_same _ _ _ _) ?_
                refine k_iconst (v := 60) f49_217 rfl ?_
                refine k_ic_eq f49_219 (fun h_ => absurd h_ ((fun z => h60 ((nI_eq (b := 60) (by omega) (by omega)).mp z)))) (fun _ => ?_)
                refine k_aload f49_222 rfl ?_
                refine k_gI (w := nI (b q)) f49_223 hS.o9 rfl (z_u_same _ _ _ _) ?_
                refine k_iconst (v := 62) f49_226 rfl ?_
                refine k_ic_ne f49_228 (fun h_ => absurd (congrArg nI h62) h_) (fun _ => ?_)
                refine k_iload f49_231 rfl ?_
                refine k_aload f49_232 rfl ?_
                refine k_gI (w := nI n) f49_233 hS.o9 rfl (Eq.trans (z_u_k _ _ _ (by decide)) (Eq.trans (z_u_k _ _ _ (by decide)) (Eq.trans (z_u_k _ _ _ (by decide)) c1))) ?_
                refine k_ic_ge f49_236 (fun h_ => absurd h_ (nI_ge h1 (by omega))) (fun _ => ?_)
                refine k_aload f49_239 rfl ?_
                refine k_getr (q := 10) f49_240 hS.o9 rfl hR.r9_0 ?_
                refine k_iload f49_243 rfl ?_
                refine k_ca (k := (q + 1)) (w := nI (b (q + 1))) f49_244 hS.a10 rfl (by omega) (by decide) (Eq.trans (z_u_p _ _ _ _ (by decide)) (Eq.trans (z_u_p _ _ _ _ (by decide)) (Eq.trans (z_u_p _ _ _ _ (by decide)) (hT3.2 (q + 1) (by omega)).2.1))) ?_
                refine k_iconst (v := 61) f49_245 rfl ?_
                refine k_ic_ne f49_247 (fun h_ => absurd (congrArg nI h61) h_) (fun _ => ?_)
                refine k_aload f49_250 rfl ?_
                refine k_dup f49_251 ?_
                refine k_gI (w := nI (b q)) f49_252 hS.o9 rfl (z_u_same _ _ _ _) ?_
                refine k_iconst (v := 256) f49_255 rfl ?_
                refine k_iadd f49_258 ?_
                rw [show nI (b q) + 256 = nI (b q + 256) from nI_add _ 256]
                refine k_putI f49_259 hS.o9 rfl ?_
                refine k_iinc (w := nI ((q + 1) + 1)) (L' := [.ref 9, .int (nI ((q + 1) + 1))]) f49_262 rfl (nI_1 (q + 1)) rfl rfl ?_
                refine k_aload f49_265 rfl ?_
                refine k_iload f49_266 rfl ?_
                refine k_putI f49_267 hS.o9 rfl ?_
                exact k_vret f49_270 ⟨rfl, _, rfl, ⟨(Eq.trans (z_u_k _ _ _ (by decide)) (Eq.trans (z_u_k _ _ _ (by decide)) (Eq.trans (z_u_k _ _ _ (by decide)) (Eq.trans (z_u_k _ _ _ (by decide)) (Eq.trans (z_u_k _ _ _ (by decide)) c2))))), (z_u_same _ _ _ _).trans (congrArg nI eed.symm), (Eq.trans (z_u_k _ _ _ (by decide)) (Eq.trans (z_u_k _ _ _ (by decide)) (Eq.trans (z_u_k _ _ _ (by decide)) (z_u_same _ _ _ _)))).trans (congrArg nI ekd.symm), fun _ => (Eq.trans (z_u_k _ _ _ (by decide)) (z_u_same _ _ _ _)).trans (congrArg nI esg.symm), fun h => absurd (ekd.symm.trans h) (by decide), (Eq.trans (z_u_k _ _ _ (by decide)) (Eq.trans (z_u_k _ _ _ (by decide)) (Eq.trans (z_u_k _ _ _ (by decide)) (Eq.trans (z_u_k _ _ _ (by decide)) (Eq.trans (z_u_k _ _ _ (by decide)) c7))))), (Eq.trans (z_u_k _ _ _ (by decide)) (Eq.trans (z_u_k _ _ _ (by decide)) (Eq.trans (z_u_k _ _ _ (by decide)) (Eq.trans (z_u_k _ _ _ (by decide)) (Eq.trans (z_u_k _ _ _ (by decide)) c1))))), hqn⟩, fun p k h => (z_u_p _ _ _ _ h).trans ((z_u_p _ _ _ _ h).trans ((z_u_p _ _ _ _ h).trans ((z_u_p _ _ _ _ h).trans ((z_u_p _ _ _ _ h).trans (hf2 p k h)))))⟩
              · have es : ¬ sgB b n q = true := fun z => h61 (of_decide_eq_true z).2.2
                have eed : ed b n q = q + 1 := eed0.trans (if_neg es)
                have esg : sg b n q = b q := if_neg es
                refine k_iload f49_174 rfl ?_
                refine k_aload f49_175 rfl ?_
                refine k_gI (w := nI q) f49_176 hS.o9 rfl c2 ?_
                refine k_ic_ne f49_179 (fun h_ => absurd (rfl) h_) (fun _ => ?_)
                refine k_aload f49_182 rfl ?_
                refine k_iconst (v := 0) f49_183 rfl ?_
                refine k_putI f49_184 hS.o9 rfl ?_
                refine k_iload f49_187 rfl ?_
                refine k_aload f49_188 rfl ?_
                refine k_gI (w := nI n) f49_189 hS.o9 rfl (Eq.trans (z_u_k _ _ _ (by decide)) c1) ?_
                refine k_ic_ge f49_192 (fun h_ => absurd h_ (nI_ge hE (by omega))) (fun _ => ?_)
                refine k_aload f49_195 rfl ?_
                refine k_iconst (v := 3) f49_196 rfl ?_
                refine k_putI f49_197 hS.o9 rfl ?_
                refine k_aload f49_200 rfl ?_
                refine k_aload f49_201 rfl ?_
                refine k_getr (q := 10) f49_202 hS.o9 rfl hR.r9_0 ?_
                refine k_iload f49_205 rfl ?_
                refine k_ca (k := q) (w := nI (b q)) f49_206 hS.a10 rfl (by omega) (by decide) (Eq.trans (z_u_p _ _ _ _ (by decide)) (Eq.trans (z_u_p _ _ _ _ (by decide)) (hT3.2 q (by omega)).2.1)) ?_
                refine k_putI f49_207 hS.o9 rfl ?_
                refine k_iinc (w := nI (q + 1)) (L' := [.ref 9, .int (nI (q + 1))]) f49_210 rfl (nI_1 q) rfl rfl ?_
                refine k_aload f49_213 rfl ?_
                refine k_gI (w := nI (b q)) f49_214 hS.o9 rfl (z_u_same _ _ _ _) ?_
                refine k_iconst (v := 60) f49_217 rfl ?_
                refine k_ic_eq f49_219 (fun h_ => absurd h_ ((fun z => h60 ((nI_eq (b := 60) (by omega) (by omega)).mp z)))) (fun _ => ?_)
                refine k_aload f49_222 rfl ?_
                refine k_gI (w := nI (b q)) f49_223 hS.o9 rfl (z_u_same _ _ _ _) ?_
                refine k_iconst (v := 62) f49_226 rfl ?_
                refine k_ic_ne f49_228 (fun h_ => absurd (congrArg nI h62) h_) (fun _ => ?_)
                refine k_iload f49_231 rfl ?_
                refine k_aload f49_232 rfl ?_
                refine k_gI (w := nI n) f49_233 hS.o9 rfl (Eq.trans (z_u_k _ _ _ (by decide)) (Eq.trans (z_u_k _ _ _ (by decide)) (Eq.trans (z_u_k _ _ _ (by decide)) c1))) ?_
                refine k_ic_ge f49_236 (fun h_ => absurd h_ (nI_ge h1 (by omega))) (fun _ => ?_)
                refine k_aload f49_239 rfl ?_
                refine k_getr (q := 10) f49_240 hS.o9 rfl hR.r9_0 ?_
                refine k_iload f49_243 rfl ?_
                refine k_ca (k := (q + 1)) (w := nI (b (q + 1))) f49_244 hS.a10 rfl (by omega) (by decide) (Eq.trans (z_u_p _ _ _ _ (by decide)) (Eq.trans (z_u_p _ _ _ _ (by decide)) (Eq.trans (z_u_p _ _ _ _ (by decide)) (hT3.2 (q + 1) (by omega)).2.1))) ?_
                refine k_iconst (v := 61) f49_245 rfl ?_
                refine k_ic_ne f49_247 (fun _ => ?_) (fun h_ => absurd ((fun z => h61 ((nI_eq (b := 61) (by omega) (by omega)).mp z))) h_)
                refine k_aload f49_265 rfl ?_
                refine k_iload f49_266 rfl ?_
                refine k_putI f49_267 hS.o9 rfl ?_
                exact k_vret f49_270 ⟨rfl, _, rfl, ⟨(Eq.trans (z_u_k _ _ _ (by decide)) (Eq.trans (z_u_k _ _ _ (by decide)) (Eq.trans (z_u_k _ _ _ (by decide)) (Eq.trans (z_u_k _ _ _ (by decide)) c2)))), (z_u_same _ _ _ _).trans (congrArg nI eed.symm), (Eq.trans (z_u_k _ _ _ (by decide)) (Eq.trans (z_u_k _ _ _ (by decide)) (z_u_same _ _ _ _))).trans (congrArg nI ekd.symm), fun _ => (Eq.trans (z_u_k _ _ _ (by decide)) (z_u_same _ _ _ _)).trans (congrArg nI esg.symm), fun h => absurd (ekd.symm.trans h) (by decide), (Eq.trans (z_u_k _ _ _ (by decide)) (Eq.trans (z_u_k _ _ _ (by decide)) (Eq.trans (z_u_k _ _ _ (by decide)) (Eq.trans (z_u_k _ _ _ (by decide)) c7)))), (Eq.trans (z_u_k _ _ _ (by decide)) (Eq.trans (z_u_k _ _ _ (by decide)) (Eq.trans (z_u_k _ _ _ (by decide)) (Eq.trans (z_u_k _ _ _ (by decide)) c1)))), hqn⟩, fun p k h => (z_u_p _ _ _ _ h).trans ((z_u_p _ _ _ _ h).trans ((z_u_p _ _ _ _ h).trans ((z_u_p _ _ _ _ h).trans (hf2 p k h))))⟩
            · have es : ¬ sgB b n q = true := fun z => h1 (of_decide_eq_true z).2.1
              have eed : ed b n q = q + 1 := eed0.trans (if_neg es)
              have esg : sg b n q = b q := if_neg es
              refine k_iload f49_174 rfl ?_
              refine k_aload f49_175 rfl ?_
              refine k_gI (w := nI q) f49_176 hS.o9 rfl c2 ?_
              refine k_ic_ne f49_179 (fun h_ => absurd (rfl) h_) (fun _ => ?_)
              refine k_aload f49_182 rfl ?_
              refine k_iconst (v := 0) f49_183 rfl ?_
              refine k_putI f49_184 hS.o9 rfl ?_
              refine k_iload f49_187 rfl ?_
              refine k_aload f49_188 rfl ?_
              refine k_gI (w := nI n) f49_189 hS.o9 rfl (Eq.trans (z_u_k _ _ _ (by decide)) c1) ?_
              refine k_ic_ge f49_192 (fun h_ => absurd h_ (nI_ge hE (by omega))) (fun _ => ?_)
              refine k_aload f49_195 rfl ?_
              refine k_iconst (v := 3) f49_196 rfl ?_
              refine k_putI f49_197 hS.o9 rfl ?_
              refine k_aload f49_200 rfl ?_
              refine k_aload f49_201 rfl ?_
              refine k_getr (q := 10) f49_202 hS.o9 rfl hR.r9_0 ?_
              refine k_iload f49_205 rfl ?_
              refine k_ca (k := q) (w := nI (b q)) f49_206 hS.a10 rfl (by omega) (by decide) (Eq.trans (z_u_p _ _ _ _ (by decide)) (Eq.trans (z_u_p _ _ _ _ (by decide)) (hT3.2 q (by omega)).2.1)) ?_
              refine k_putI f49_207 hS.o9 rfl ?_
              refine k_iinc (w := nI (q + 1)) (L' := [.ref 9, .int (nI (q + 1))]) f49_210 rfl (nI_1 q) rfl rfl ?_
              refine k_aload f49_213 rfl ?_
              refine k_gI (w := nI (b q)) f49_214 hS.o9 rfl (z_u_same _ _ _ _) ?_
              refine k_iconst (v := 60) f49_217 rfl ?_
              refine k_ic_eq f49_219 (fun h_ => absurd h_ ((fun z => h60 ((nI_eq (b := 60) (by omega) (by omega)).mp z)))) (fun _ => ?_)
              refine k_aload f49_222 rfl ?_
              refine k_gI (w := nI (b q)) f49_223 hS.o9 rfl (z_u_same _ _ _ _) ?_
              refine k_iconst (v := 62) f49_226 rfl ?_
              refine k_ic_ne f49_228 (fun h_ => absurd (congrArg nI h62) h_) (fun _ => ?_)
              refine k_iload f49_231 rfl ?_
              refine k_aload f49_232 rfl ?_
              refine k_gI (w := nI n) f49_233 hS.o9 rfl (Eq.trans (z_u_k _ _ _ (by decide)) (Eq.trans (z_u_k _ _ _ (by decide)) (Eq.trans (z_u_k _ _ _ (by decide)) c1))) ?_
              refine k_ic_ge f49_236 (fun _ => ?_) (fun h_ => absurd (nI_le (by omega) (by omega)) h_)
              refine k_aload f49_265 rfl ?_
              refine k_iload f49_266 rfl ?_
              refine k_putI f49_267 hS.o9 rfl ?_
              exact k_vret f49_270 ⟨rfl, _, rfl, ⟨(Eq.trans (z_u_k _ _ _ (by decide)) (Eq.trans (z_u_k _ _ _ (by decide)) (Eq.trans (z_u_k _ _ _ (by decide)) (Eq.trans (z_u_k _ _ _ (by decide)) c2)))), (z_u_same _ _ _ _).trans (congrArg nI eed.symm), (Eq.trans (z_u_k _ _ _ (by decide)) (Eq.trans (z_u_k _ _ _ (by decide)) (z_u_same _ _ _ _))).trans (congrArg nI ekd.symm), fun _ => (Eq.trans (z_u_k _ _ _ (by decide)) (z_u_same _ _ _ _)).trans (congrArg nI esg.symm), fun h => absurd (ekd.symm.trans h) (by decide), (Eq.trans (z_u_k _ _ _ (by decide)) (Eq.trans (z_u_k _ _ _ (by decide)) (Eq.trans (z_u_k _ _ _ (by decide)) (Eq.trans (z_u_k _ _ _ (by decide)) c7)))), (Eq.trans (z_u_k _ _ _ (by decide)) (Eq.trans (z_u_k _ _ _ (by decide)) (Eq.trans (z_u_k _ _ _ (by decide)) (Eq.trans (z_u_k _ _ _ (by decide)) c1)))), hqn⟩, fun p k h => (z_u_p _ _ _ _ h).trans ((z_u_p _ _ _ _ h).trans ((z_u_p _ _ _ _ h).trans ((z_u_p _ _ _ _ h).trans (hf2 p k h))))⟩
          · have es : ¬ sgB b n q = true := fun z => (of_decide_eq_true z).1.elim h60 h62
            have eed : ed b n q = q + 1 := eed0.trans (if_neg es)
            have esg : sg b n q = b q := if_neg es
            refine k_iload f49_174 rfl ?_
            refine k_aload f49_175 rfl ?_
            refine k_gI (w := nI q) f49_176 hS.o9 rfl c2 ?_
            refine k_ic_ne f49_179 (fun h_ => absurd (rfl) h_) (fun _ => ?_)
            refine k_aload f49_182 rfl ?_
            refine k_iconst (v := 0) f49_183 rfl ?_
            refine k_putI f49_184 hS.o9 rfl ?_
            refine k_iload f49_187 rfl ?_
            refine k_aload f49_188 rfl ?_
            refine k_gI (w := nI n) f49_189 hS.o9 rfl (Eq.trans (z_u_k _ _ _ (by decide)) c1) ?_
            refine k_ic_ge f49_192 (fun h_ => absurd h_ (nI_ge hE (by omega))) (fun _ => ?_)
            refine k_aload f49_195 rfl ?_
            refine k_iconst (v := 3) f49_196 rfl ?_
            refine k_putI f49_197 hS.o9 rfl ?_
            refine k_aload f49_200 rfl ?_
            refine k_aload f49_201 rfl ?_
            refine k_getr (q := 10) f49_202 hS.o9 rfl hR.r9_0 ?_
            refine k_iload f49_205 rfl ?_
            refine k_ca (k := q) (w := nI (b q)) f49_206 hS.a10 rfl (by omega) (by decide) (Eq.trans (z_u_p _ _ _ _ (by decide)) (Eq.trans (z_u_p _ _ _ _ (by decide)) (hT3.2 q (by omega)).2.1)) ?_
            refine k_putI f49_207 hS.o9 rfl ?_
            refine k_iinc (w := nI (q + 1)) (L' := [.ref 9, .int (nI (q + 1))]) f49_210 rfl (nI_1 q) rfl rfl ?_
            refine k_aload f49_213 rfl ?_
            refine k_gI (w := nI (b q)) f49_214 hS.o9 rfl (z_u_same _ _ _ _) ?_
            refine k_iconst (v := 60) f49_217 rfl ?_
            refine k_ic_eq f49_219 (fun h_ => absurd h_ ((fun z => h60 ((nI_eq (b := 60) (by omega) (by omega)).mp z)))) (fun _ => ?_)
            refine k_aload f49_222 rfl ?_
            refine k_gI (w := nI (b q)) f49_223 hS.o9 rfl (z_u_same _ _ _ _) ?_
            refine k_iconst (v := 62) f49_226 rfl ?_
            refine k_ic_ne f49_228 (fun _ => ?_) (fun h_ => absurd ((fun z => h62 ((nI_eq (b := 62) (by omega) (by omega)).mp z))) h_)
            refine k_aload f49_265 rfl ?_
            refine k_iload f49_266 rfl ?_
            refine k_putI f49_267 hS.o9 rfl ?_
            exact k_vret f49_270 ⟨rfl, _, rfl, ⟨(Eq.trans (z_u_k _ _ _ (by decide)) (Eq.trans (z_u_k _ _ _ (by decide)) (Eq.trans (z_u_k _ _ _ (by decide)) (Eq.trans (z_u_k _ _ _ (by decide)) c2)))), (z_u_same _ _ _ _).trans (congrArg nI eed.symm), (Eq.trans (z_u_k _ _ _ (by decide)) (Eq.trans (z_u_k _ _ _ (by decide)) (z_u_same _ _ _ _))).trans (congrArg nI ekd.symm), fun _ => (Eq.trans (z_u_k _ _ _ (by decide)) (z_u_same _ _ _ _)).trans (congrArg nI esg.symm), fun h => absurd (ekd.symm.trans h) (by decide), (Eq.trans (z_u_k _ _ _ (by decide)) (Eq.trans (z_u_k _ _ _ (by decide)) (Eq.trans (z_u_k _ _ _ (by decide)) (Eq.trans (z_u_k _ _ _ (by decide)) c7)))), (Eq.trans (z_u_k _ _ _ (by decide)) (Eq.trans (z_u_k _ _ _ (by decide)) (Eq.trans (z_u_k _ _ _ (by decide)) (Eq.trans (z_u_k _ _ _ (by decide)) c1)))), hqn⟩, fun p k h => (z_u_p _ _ _ _ h).trans ((z_u_p _ _ _ _ h).trans ((z_u_p _ _ _ _ h).trans ((z_u_p _ _ _ _ h).trans (hf2 p k h))))⟩
      · have ekd : kd b n q = 0 := (if_neg hL).trans ((if_neg hD).trans (if_neg hE))
        have eed : ed b n q = q := (if_neg hL).trans ((if_neg hD).trans (if_neg hE))
        refine k_iload f49_174 rfl ?_
        refine k_aload f49_175 rfl ?_
        refine k_gI (w := nI q) f49_176 hS.o9 rfl c2 ?_
        refine k_ic_ne f49_179 (fun h_ => absurd (rfl) h_) (fun _ => ?_)
        refine k_aload f49_182 rfl ?_
        refine k_iconst (v := 0) f49_183 rfl ?_
        refine k_putI f49_184 hS.o9 rfl ?_
        refine k_iload f49_187 rfl ?_
        refine k_aload f49_188 rfl ?_
        refine k_gI (w := nI n) f49_189 hS.o9 rfl (Eq.trans (z_u_k _ _ _ (by decide)) c1) ?_
        refine k_ic_ge f49_192 (fun _ => ?_) (fun h_ => absurd (nI_le (by omega) (by omega)) h_)
        refine k_aload f49_265 rfl ?_
        refine k_iload f49_266 rfl ?_
        refine k_putI f49_267 hS.o9 rfl ?_
        exact k_vret f49_270 ⟨rfl, _, rfl, ⟨(Eq.trans (z_u_k _ _ _ (by decide)) (Eq.trans (z_u_k _ _ _ (by decide)) c2)), (z_u_same _ _ _ _).trans (congrArg nI eed.symm), (Eq.trans (z_u_k _ _ _ (by decide)) (z_u_same _ _ _ _)).trans (congrArg nI ekd.symm), fun h => absurd (ekd.symm.trans h) (by decide), fun h => absurd (ekd.symm.trans h) (by decide), (Eq.trans (z_u_k _ _ _ (by decide)) (Eq.trans (z_u_k _ _ _ (by decide)) c7)), (Eq.trans (z_u_k _ _ _ (by decide)) (Eq.trans (z_u_k _ _ _ (by decide)) c1)), hqn⟩, fun p k h => (z_u_p _ _ _ _ h).trans ((z_u_p _ _ _ _ h).trans (hf2 p k h))⟩
