/-! YEARS: the years, on both sides. -/
def yrC (so : (Nat → Int64) → Nat → Bool) (n m P D : Nat) (s : Nat → Int32) (q : Nat × Int32 × Int32) : Nat × Int32 × Int32 :=
  ((foL (fun _ => yC so n m P) 0 D (q.1, (fu s 5 (nI q.1), 0))).1, q.2.1 + ((foL (fun _ => yC so n m P) 0 D (q.1, (fu s 5 (nI q.1), 0))).2.1 4 - s 4), q.2.2 + nI (popc (cl (acc (fV (foL (fun _ => yC so n m P) 0 D (q.1, (fu s 5 (nI q.1), 0))).2.1) n))))
theorem yC_lt {so : (Nat → Int64) → Nat → Bool} {n m P : Nat} : ∀ (D i : Nat) (y : Nat × ((Nat → Int32) × Int32)), 0 < D → (foL (fun _ => yC so n m P) i D y).1 < 2147483648 := by
  intro D
  induction D with
  | zero => intro i y h; omega
  | succ D ih =>
    intro i y _
    rw [foL_s]
    by_cases q : 0 < D
    · exact ih _ _ q
    · have : D = 0 := by omega
      subst this
      exact nx_lt (nx y.1)
theorem yD_1 {so : (Nat → Int64) → Nat → Bool} {n m P : Nat} (hn : n ≤ 8) : ∀ (D i : Nat) (y : Nat × ((Nat → Int32) × Int32)), (foL (fun _ => yD so n m P) i D y).2.1 1 = y.2.1 1 := by
  intro D
  induction D with
  | zero => intro i y; rfl
  | succ D ih =>
    intro i y
    rw [foL_s, ih]
    have ae : AE (rwY y.2.1 m (d1 P y.1) (d2 P y.1)) (yD so n m P y).2.1 := AE.of (dD_af (z := (rwY y.2.1 m (d1 P y.1) (d2 P y.1), y.2.2)) hn AF.rfl)
    exact (ae 1 (by omega)).trans (rwY_o _ (by omega) (by omega))
theorem lp_yr20 {x : Nat × (Nat → Int32)} {d : Nat} {R : Nat → Nat → Option Nat} {G : zG} {I0 : Nat → Nat → Int32} {s : Nat → Int32} {t P M D rn : Nat} {qf : Nat × Int32 × Int32} (hR : Rs R) (hS : Sh G) (ht6 : t < 6) (hA : RuA I0 R G) (ht : t < cl (I0 0 4)) (hO : SOk s rn) (h0 : s 0 = nI P) (hP : 0 < P) (hP11 : P < 11) (hD : D ≤ 400) (hM : M ≤ 10) (k62 : I0 62 = s) (k63 : ∀ k, k < 139 → I0 63 k = s k) : ∀ (f i : Nat) (q : Nat × Int32 × Int32) (I : Nat → Nat → Int32) (J : Nat → Nat → Int64) (u9 u10 u11 u12 : Value), i + f = M → (I 62 = s ∧ (∀ p k, p ≠ 62 → ¬ (p = 51 ∧ (k = 23 ∨ k = 26)) → I p k = I0 p k) ∧ q.1 < 2147483648 ∧ foL (fun _ => yrC (soB I0 t) (cl (s 1)) (cl (s 2)) P D s) i f q = qf) → zOk x (d + 7) 201 73 [.ref 51, .int (nI t), .int (nI M), .int (nI D), .int (0), .long (lN q.1), zU, .int (q.2.1), .int (nI i), u9, u10, u11, u12] [] (I, J, R, G) (fun v mm => v = some (.int ((qf).2.1)) ∧ ∃ I' J', mm = (I', J', R, G) ∧ I' 62 = s ∧ ∀ p k, p ≠ 62 → ¬ (p = 51 ∧ (k = 23 ∨ k = 26)) → I' p k = I0 p k) := by
  intro f
  induction f with
  | zero =>
    intro i q I J u9 u10 u11 u12 hi hz
    obtain ⟨h62, hfr, hX, hf⟩ := hz
    refine k_iload f201_73 rfl ?_
    refine k_iload f201_75 rfl ?_
    refine k_ic_ge f201_76 (fun _ => ?_) (fun h_ => absurd (nI_le (by omega) (by omega)) h_)
    refine k_iload f201_281 rfl ?_
    exact k_iret f201_283 rfl ⟨congrArg (fun t => some (Value.int t.2.1)) hf, I, J, rfl, h62, hfr⟩
  | succ f ih =>
    intro i q I J u9 u10 u11 u12 hi hz
    obtain ⟨h62, hfr, hX, hf⟩ := hz
    have hin : i < M := by omega
    have hn9 := hO.2.1.2
    have hm25 := hO.2.2.1.2
    obtain ⟨yd, eyd⟩ : ∃ yd, foL (fun _ => yD (soB I0 t) (cl (s 1)) (cl (s 2)) P) 0 D (q.1, (s, I 51 26)) = yd := ⟨_, rfl⟩
    obtain ⟨yc, eyc⟩ : ∃ yc, foL (fun _ => yC (soB I0 t) (cl (s 1)) (cl (s 2)) P) 0 D (q.1, (fu s 5 (nI q.1), 0)) = yc := ⟨_, rfl⟩
    have he := year_eq (so := soB I0 t) (X := q.1) (e := I 51 26) hO h0 hP hP11 hD
    have h1 := y_1 (so := soB I0 t) (n := cl (s 1)) (m := cl (s 2)) (P := P) D 0 (q.1, (fu s 5 (nI q.1), 0)) (q.1, (s, I 51 26)) rfl
    rw [eyd, eyc] at he h1
    have hq : yrC (soB I0 t) (cl (s 1)) (cl (s 2)) P D s q = (yc.1, q.2.1 + (yc.2.1 4 - s 4), q.2.2 + nI (popc (cl (acc (fV yc.2.1) (cl (s 1)))))) := by
      unfold yrC
      rw [eyc]
    have ed1 : yd.2.1 1 = nI (cl (s 1)) := by
      rw [← eyd, yD_1 (by omega)]
      exact hO.2.1.1
    obtain ⟨kv, kv1, kv2⟩ := acc_bits (fV_or yd.2.1) (cl (s 1)) (by omega)
    have kv9 : kv < 1024 := lt_1024 kv1 (by omega)
    have hmb : MB (cl (s 2)) P s := ⟨h0, fun i hi => by have g := (hO.mw).2.2 i hi; rw [h0, cl_nI (by omega)] at g; exact g⟩
    have lX : yc.1 < 2147483648 := by
      by_cases q0 : D = 0
      · subst q0
        rw [← eyc]
        exact hX
      · rw [← eyc]
        exact yC_lt D 0 _ (by omega)
    refine k_iload f201_73 rfl ?_
    refine k_iload f201_75 rfl ?_
    refine k_ic_ge f201_76 (fun h_ => absurd h_ (nI_ge hin (by omega))) (fun _ => ?_)
    refine k_iconst (v := 0) f201_79 rfl ?_
    refine k_istore (L' := [.ref 51, .int (nI t), .int (nI M), .int (nI D), .int (0), .long (lN q.1), zU, .int (q.2.1), .int (nI i), .int (0), u10, u11, u12]) f201_80 rfl rfl ?_
    refine lp_yr1 (yf := yd) (I0 := I0) (n := cl (s 1)) (m := cl (s 2)) (P := P) (M := M) (D := D) (j := i) hR hS ht6 hA ht (by omega) (by omega) hP hP11 hD ((k63 2 (by omega)).trans hO.2.2.1.1) (fun I5 J5 v10 v11 v12 hz5 ht5 => ?_) D 0 (q.1, (s, I 51 26)) I J _ _ _ (by omega) ⟨⟨h62, rfl, hO.sw, AF.rfl, hfr⟩, hO.2.1.1, hmb, hX, fun k _ => by rw [k62], eyd⟩
    refine k_iload f201_238 rfl ?_
    refine k_iload f201_240 rfl ?_
    refine k_if_ne f201_242 (fun h_ => absurd (by decide) h_) (fun _ => ?_)
    refine k_aload f201_245 rfl ?_
    refine k_getr (q := 62) f201_246 hS.o51 rfl hR.r51_25 ?_
    refine k_iconst (v := 4) f201_249 rfl ?_
    refine k_ia (k := 4) (w := yd.2.1 4) f201_250 hS.a62 rfl (by decide) (by decide) (congrFun hz5.1 4) ?_
    refine k_aload f201_251 rfl ?_
    refine k_getr (q := 63) f201_252 hS.o51 rfl hR.r51_27 ?_
    refine k_iconst (v := 4) f201_255 rfl ?_
    refine k_ia (k := 4) (w := s 4) f201_256 hS.a63 rfl (by decide) (by decide) ((hz5.2.2.2.2 63 4 (by omega) (by omega)).trans (k63 4 (by omega))) ?_
    refine k_isub f201_257 ?_
    refine k_goto f201_258 ?_
    refine k_iadd f201_268 ?_
    refine k_istore (L' := [.ref 51, .int (nI t), .int (nI M), .int (nI D), .int (0), .long (lN yd.1), zU, .int ((q.2.1) + ((yd.2.1 4) - (s 4))), .int (nI i), .int (nI D), v10, v11, v12]) f201_269 rfl rfl ?_
    refine k_aload f201_271 rfl ?_
    refine k_callv (as := []) (rest := []) f201_272 hS.o51 rfl rfl rfl rfl (q_putsBack hR hS) ?_
    rintro _ _ ⟨rfl, I6, rfl, w6⟩
    refine k_iinc (w := nI (i + 1)) (L' := [.ref 51, .int (nI t), .int (nI M), .int (nI D), .int (0), .long (lN yd.1), zU, .int ((q.2.1) + ((yd.2.1 4) - (s 4))), .int (nI (i + 1)), .int (nI D), v10, v11, v12]) f201_275 rfl (nI_1 i) rfl rfl ?_
    refine k_goto f201_278 ?_
    rw [foL_s] at hf
    have eA : (q.2.1) + ((yd.2.1 4) - (s 4)) = (yrC (soB I0 t) (cl (s 1)) (cl (s 2)) P D s q).2.1 := by rw [hq, he.1]
    have eX : yd.1 = (yrC (soB I0 t) (cl (s 1)) (cl (s 2)) P D s q).1 := by rw [hq, h1]
    rw [eA, eX]
    refine ih (i + 1) (yrC (soB I0 t) (cl (s 1)) (cl (s 2)) P D s q) I6 J5 _ _ _ _ (by omega) ⟨funext fun k => ?_, fun p k g1 g2 => (w6.1 p k (by omega)).trans (hz5.2.2.2.2 p k g1 g2), by rw [hq]; exact lX, hf⟩
    by_cases hk : k < 139
    · have a := w6.2 k hk
      rw [Nat.zero_add] at a
      rw [a, hz5.2.2.2.2 63 k (by omega) (by omega)]
      exact k63 k hk
    · rw [w6.1 62 k (by omega), hz5.1, ht5 k (by omega), k62]
theorem lp_yr21 {x : Nat × (Nat → Int32)} {d : Nat} {R : Nat → Nat → Option Nat} {G : zG} {I0 : Nat → Nat → Int32} {s : Nat → Int32} {t P M D rn : Nat} {qf : Nat × Int32 × Int32} (hR : Rs R) (hS : Sh G) (ht6 : t < 6) (hA : RuA I0 R G) (ht : t < cl (I0 0 4)) (hO : SOk s rn) (h0 : s 0 = nI P) (hP : 0 < P) (hP11 : P < 11) (hD : D ≤ 400) (hM : M ≤ 10) (k62 : I0 62 = s) (k63 : ∀ k, k < 139 → I0 63 k = s k) : ∀ (f i : Nat) (q : Nat × Int32 × Int32) (I : Nat → Nat → Int32) (J : Nat → Nat → Int64) (u9 u10 u11 u12 : Value), i + f = M → (I 62 = s ∧ (∀ p k, p ≠ 62 → ¬ (p = 51 ∧ (k = 23 ∨ k = 26)) → I p k = I0 p k) ∧ q.1 < 2147483648 ∧ foL (fun _ => yrC (soB I0 t) (cl (s 1)) (cl (s 2)) P D s) i f q = qf) → zOk x (d + 7) 201 73 [.ref 51, .int (nI t), .int (nI M), .int (nI D), .int (1), .long (lN q.1), zU, .int (q.2.2), .int (nI i), u9, u10, u11, u12] [] (I, J, R, G) (fun v mm => v = some (.int ((qf).2.2)) ∧ ∃ I' J', mm = (I', J', R, G) ∧ I' 62 = s ∧ ∀ p k, p ≠ 62 → ¬ (p = 51 ∧ (k = 23 ∨ k = 26)) → I' p k = I0 p k) := by
  intro f
  induction f with
  | zero =>
    intro i q I J u9 u10 u11 u12 hi hz
    obtain ⟨h62, hfr, hX, hf⟩ := hz
    refine k_iload f201_73 rfl ?_
    refine k_iload f201_75 rfl ?_
    refine k_ic_ge f201_76 (fun _ => ?_) (fun h_ => absurd (nI_le (by omega) (by omega)) h_)
    refine k_iload f201_281 rfl ?_
    exact k_iret f201_283 rfl ⟨congrArg (fun t => some (Value.int t.2.2)) hf, I, J, rfl, h62, hfr⟩
  | succ f ih =>
    intro i q I J u9 u10 u11 u12 hi hz
    obtain ⟨h62, hfr, hX, hf⟩ := hz
    have hin : i < M := by omega
    have hn9 := hO.2.1.2
    have hm25 := hO.2.2.1.2
    obtain ⟨yd, eyd⟩ : ∃ yd, foL (fun _ => yD (soB I0 t) (cl (s 1)) (cl (s 2)) P) 0 D (q.1, (s, I 51 26)) = yd := ⟨_, rfl⟩
    obtain ⟨yc, eyc⟩ : ∃ yc, foL (fun _ => yC (soB I0 t) (cl (s 1)) (cl (s 2)) P) 0 D (q.1, (fu s 5 (nI q.1), 0)) = yc := ⟨_, rfl⟩
    have he := year_eq (so := soB I0 t) (X := q.1) (e := I 51 26) hO h0 hP hP11 hD
    have h1 := y_1 (so := soB I0 t) (n := cl (s 1)) (m := cl (s 2)) (P := P) D 0 (q.1, (fu s 5 (nI q.1), 0)) (q.1, (s, I 51 26)) rfl
    rw [eyd, eyc] at he h1
    have hq : yrC (soB I0 t) (cl (s 1)) (cl (s 2)) P D s q = (yc.1, q.2.1 + (yc.2.1 4 - s 4), q.2.2 + nI (popc (cl (acc (fV yc.2.1) (cl (s 1)))))) := by
      unfold yrC
      rw [eyc]
    have ed1 : yd.2.1 1 = nI (cl (s 1)) := by
      rw [← eyd, yD_1 (by omega)]
      exact hO.2.1.1
    obtain ⟨kv, kv1, kv2⟩ := acc_bits (fV_or yd.2.1) (cl (s 1)) (by omega)
    have kv9 : kv < 1024 := lt_1024 kv1 (by omega)
    have hmb : MB (cl (s 2)) P s := ⟨h0, fun i hi => by have g := (hO.mw).2.2 i hi; rw [h0, cl_nI (by omega)] at g; exact g⟩
    have lX : yc.1 < 2147483648 := by
      by_cases q0 : D = 0
      · subst q0
        rw [← eyc]
        exact hX
      · rw [← eyc]
        exact yC_lt D 0 _ (by omega)
    refine k_iload f201_73 rfl ?_
    refine k_iload f201_75 rfl ?_
    refine k_ic_ge f201_76 (fun h_ => absurd h_ (nI_ge hin (by omega))) (fun _ => ?_)
    refine k_iconst (v := 0) f201_79 rfl ?_
    refine k_istore (L' := [.ref 51, .int (nI t), .int (nI M), .int (nI D), .int (1), .long (lN q.1), zU, .int (q.2.2), .int (nI i), .int (0), u10, u11, u12]) f201_80 rfl rfl ?_
    refine lp_yr1 (yf := yd) (I0 := I0) (n := cl (s 1)) (m := cl (s 2)) (P := P) (M := M) (D := D) (j := i) hR hS ht6 hA ht (by omega) (by omega) hP hP11 hD ((k63 2 (by omega)).trans hO.2.2.1.1) (fun I5 J5 v10 v11 v12 hz5 ht5 => ?_) D 0 (q.1, (s, I 51 26)) I J _ _ _ (by omega) ⟨⟨h62, rfl, hO.sw, AF.rfl, hfr⟩, hO.2.1.1, hmb, hX, fun k _ => by rw [k62], eyd⟩
    refine k_iload f201_238 rfl ?_
    refine k_iload f201_240 rfl ?_
    refine k_if_ne f201_242 (fun _ => ?_) (fun h_ => absurd (by decide) h_)
    refine k_aload f201_261 rfl ?_
    refine e_v (as := []) (rest := [.int (q.2.2)]) f201_262 hS.o51 rfl rfl rfl ((by have h := s_voidOnes (x := x) (d := d + 4) (J := J5) hR hS hz5.1 ed1 (by omega); rw [kv2] at h; exact h)) ?_
    refine e_s (as := [.int (nI kv)]) (rest := [.int (q.2.2)]) f201_265 rfl rfl rfl (s_bits kv9) ?_
    refine k_iadd f201_268 ?_
    refine k_istore (L' := [.ref 51, .int (nI t), .int (nI M), .int (nI D), .int (1), .long (lN yd.1), zU, .int ((q.2.2) + (nI (popc kv))), .int (nI i), .int (nI D), v10, v11, v12]) f201_269 rfl rfl ?_
    refine k_aload f201_271 rfl ?_
    refine k_callv (as := []) (rest := []) f201_272 hS.o51 rfl rfl rfl rfl (q_putsBack hR hS) ?_
    rintro _ _ ⟨rfl, I6, rfl, w6⟩
    refine k_iinc (w := nI (i + 1)) (L' := [.ref 51, .int (nI t), .int (nI M), .int (nI D), .int (1), .long (lN yd.1), zU, .int ((q.2.2) + (nI (popc kv))), .int (nI (i + 1)), .int (nI D), v10, v11, v12]) f201_275 rfl (nI_1 i) rfl rfl ?_
    refine k_goto f201_278 ?_
    rw [foL_s] at hf
    have eA : (q.2.2) + (nI (popc kv)) = (yrC (soB I0 t) (cl (s 1)) (cl (s 2)) P D s q).2.2 := by rw [hq, ← he.2, kv2, cl_nI (by omega)]
    have eX : yd.1 = (yrC (soB I0 t) (cl (s 1)) (cl (s 2)) P D s q).1 := by rw [hq, h1]
    rw [eA, eX]
    refine ih (i + 1) (yrC (soB I0 t) (cl (s 1)) (cl (s 2)) P D s q) I6 J5 _ _ _ _ (by omega) ⟨funext fun k => ?_, fun p k g1 g2 => (w6.1 p k (by omega)).trans (hz5.2.2.2.2 p k g1 g2), by rw [hq]; exact lX, hf⟩
    by_cases hk : k < 139
    · have a := w6.2 k hk
      rw [Nat.zero_add] at a
      rw [a, hz5.2.2.2.2 63 k (by omega) (by omega)]
      exact k63 k hk
    · rw [w6.1 62 k (by omega), hz5.1, ht5 k (by omega), k62]
