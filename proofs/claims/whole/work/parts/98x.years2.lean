/-! YEARS, in the reference: its days. -/
def MB (m P : Nat) (s : Nat → Int32) : Prop := s 0 = nI P ∧ ∀ i, i < m → Rg (s (56 + 3 * i + 1)) P ∧ Rg (s (56 + 3 * i + 2)) P ∧ s (56 + 3 * i + 1) ≠ s (56 + 3 * i + 2)
theorem MB.cg {m P : Nat} {s s' : Nat → Int32} (h : MB m P s) (h0 : s' 0 = s 0) (hm : ∀ i, 56 ≤ i → i < 56 + 3 * m → s' i = s i) : MB m P s' := by
  refine ⟨h0.trans h.1, fun i hi => ?_⟩
  rw [hm _ (by omega) (by omega), hm (56 + 3 * i + 2) (by omega) (by omega)]
  exact h.2 i hi
theorem MB.mw {m P a b : Nat} {s : Nat → Int32} (h : MB m P s) (hm : m ≤ 24) (hP : P < 11) (ha : a < P) (hb : b < P) : MW (rwY s m a b) (if a = b then m else m + 1) := by
  have e0 : rwY s m a b 0 = nI P := (rwY_o s (by omega) (by omega)).trans h.1
  unfold MW
  rw [rwY_2, e0, cl_nI (by omega)]
  refine ⟨rfl, by split <;> omega, fun i hi => ?_⟩
  by_cases q : i < m
  · rw [rwY_o s (by omega) (by omega), rwY_o s (by omega) (by omega)]
    exact h.2 i q
  · by_cases e : a = b
    · rw [if_pos e] at hi
      exact absurd hi q
    · rw [if_neg e] at hi
      have : i = m := by omega
      subst this
      rw [rwY_a, rwY_b]
      exact ⟨Rg.of ha (by omega), Rg.of hb (by omega), fun q => e ((nI_eq (by omega) (by omega)).mp q)⟩
theorem SW.y {s : Nat → Int32} {m a b : Nat} (h : SW s) : SW (rwY s m a b) := by
  refine ⟨by rw [rwY_o s (by omega) (by omega)]; exact h.1, by rw [rwY_o s (by omega) (by omega)]; exact h.2.1, fun c hc => ?_⟩
  rw [rwY_o s (by omega) (by omega)] at hc
  have := h.2.1.2
  exact (h.2.2 c hc).cg (rwY_o s (by omega) (by omega)) fun k _ => rwY_o s (by omega) (by omega)
theorem RZ.y {I0 I : Nat → Nat → Int32} {m a b : Nat} {z : (Nat → Int32) × Int32} (h : RZ I0 z.1 z I) : RZ I0 (rwY z.1 m a b) (rwY z.1 m a b, z.2) (z_u (z_u (z_u (z_u I 62 (56 + 3 * m) (z.1 3)) 62 (56 + 3 * m + 1) (nI a)) 62 (56 + 3 * m + 2) (nI b)) 62 2 (nI (if a = b then m else m + 1))) := by
  obtain ⟨h1, h2, h3, h4, h5⟩ := h
  refine ⟨?_, ?_, h3.y, AF.rfl, fun q k g1 g2 => ?_⟩
  · rw [z_u_row, z_u_row, z_u_row, z_u_row, h1]
    rfl
  · rw [z_u_p _ _ _ _ (by omega), z_u_p _ _ _ _ (by omega), z_u_p _ _ _ _ (by omega), z_u_p _ _ _ _ (by omega)]
    exact h2
  · rw [z_u_p _ _ _ _ g1, z_u_p _ _ _ _ g1, z_u_p _ _ _ _ g1, z_u_p _ _ _ _ g1]
    exact h5 q k g1 g2
theorem ix_m0 (m : Nat) : nI (56 + 3 * m) = (56) + ((3) * (nI m)) := by
  rw [← nI_add, ← pk_mul]
  rfl
theorem ix_mk (m k : Nat) : nI (56 + 3 * m + k) = ((56) + ((3) * (nI m))) + (nI k) := by
  rw [← nI_add, ix_m0]
theorem lp_yr1 {x : Nat × (Nat → Int32)} {d : Nat} {R : Nat → Nat → Option Nat} {G : zG} {I0 : Nat → Nat → Int32} {t n m P M D j : Nat} {wh al : Int32} {yf : Nat × ((Nat → Int32) × Int32)} {Q : Option Value → zM → Prop} (hR : Rs R) (hS : Sh G) (ht6 : t < 6) (hA : RuA I0 R G) (ht : t < cl (I0 0 4)) (hn8 : n ≤ 8) (hm24 : m ≤ 24) (hP : 0 < P) (hP11 : P < 11) (hD : D ≤ 400) (h63 : I0 63 2 = nI m) (hk : ∀ I J u10 u11 u12, RZ I0 yf.2.1 yf.2 I → (∀ k, 139 ≤ k → yf.2.1 k = I0 62 k) → zOk x (d + 7) 201 238 [.ref 51, .int (nI t), .int (nI M), .int (nI D), .int (wh), .long (lN yf.1), zU, .int (al), .int (nI j), .int (nI D), u10, u11, u12] [] (I, J, R, G) Q) : ∀ (f i : Nat) (y : Nat × ((Nat → Int32) × Int32)) (I : Nat → Nat → Int32) (J : Nat → Nat → Int64) (u10 u11 u12 : Value), i + f = D → (RZ I0 y.2.1 y.2 I ∧ y.2.1 1 = nI n ∧ MB m P y.2.1 ∧ y.1 < 2147483648 ∧ (∀ k, 139 ≤ k → y.2.1 k = I0 62 k) ∧ foL (fun _ => yD (soB I0 t) n m P) i f y = yf) → zOk x (d + 7) 201 82 [.ref 51, .int (nI t), .int (nI M), .int (nI D), .int (wh), .long (lN y.1), zU, .int (al), .int (nI j), .int (nI i), u10, u11, u12] [] (I, J, R, G) Q := by
  intro f
  induction f with
  | zero =>
    intro i y I J u10 u11 u12 hi hz
    obtain ⟨hz, hn, hmb, hX, htl, hf⟩ := hz
    refine k_iload f201_82 rfl ?_
    refine k_iload f201_84 rfl ?_
    refine k_ic_ge f201_85 (fun _ => ?_) (fun h_ => absurd (nI_le (by omega) (by omega)) h_)
    have e : i = D := by omega
    subst e
    have hf : y = yf := hf
    rw [hf]
    exact hk I J _ _ _ (hf ▸ hz) (hf ▸ htl)
  | succ f ih =>
    intro i y I J u10 u11 u12 hi hz
    obtain ⟨hz, hn, hmb, hX, htl, hf⟩ := hz
    have hin : i < D := by omega
    have hX1 := nx_lt y.1
    have hX2 := nx_lt (nx y.1)
    have b1 := d1_lt (X := y.1) hP
    have b2 := d2_lt (X := y.1) hP
    have hPl : ¬ (nI P).toInt64 = 0 := by
      rw [nI_l (by omega), show (0 : Int64) = lN 0 from rfl, lN_eq (by omega) (by omega)]
      omega
    have e63 : I 63 2 = nI m := (hz.2.2.2.2 63 2 (by omega) (by omega)).trans h63
    by_cases hab : d1 P y.1 = d2 P y.1
    · refine k_iload f201_82 rfl ?_
      refine k_iload f201_84 rfl ?_
      refine k_ic_ge f201_85 (fun h_ => absurd h_ (nI_ge hin (by omega))) (fun _ => ?_)
      refine k_lload f201_88 rfl ?_
      refine k_lconst (v := 1103515245) f201_90 rfl ?_
      refine k_lmul f201_93 ?_
      refine k_lconst (v := 12345) f201_94 rfl ?_
      refine k_ladd f201_97 ?_
      refine k_lconst (v := 2147483648) f201_98 rfl ?_
      refine k_lrem f201_101 (by decide) ?_
      rw [nx_d hX]
      refine k_lstore (L' := [.ref 51, .int (nI t), .int (nI M), .int (nI D), .int (wh), .long (lN (nx y.1)), zU, .int (al), .int (nI j), .int (nI i), u10, u11, u12]) f201_102 rfl rfl ?_
      refine k_lload f201_104 rfl ?_
      refine k_lconst (v := 65536) f201_106 rfl ?_
      refine k_ldiv f201_109 (by decide) ?_
      refine k_aload f201_110 rfl ?_
      refine k_getr (q := 62) f201_111 hS.o51 rfl hR.r51_25 ?_
      refine k_iconst (v := 0) f201_114 rfl ?_
      refine k_ia (k := 0) (w := nI P) f201_115 hS.a62 rfl (by decide) (by decide) ((congrFun hz.1 0).trans hmb.1) ?_
      refine k_i2l f201_116 ?_
      refine k_lrem f201_117 hPl ?_
      refine k_l2i f201_118 ?_
      rw [dr_d hX1 hP hP11]
      refine k_istore (L' := [.ref 51, .int (nI t), .int (nI M), .int (nI D), .int (wh), .long (lN (nx y.1)), zU, .int (al), .int (nI j), .int (nI i), .int (nI (d1 P y.1)), u11, u12]) f201_119 rfl rfl ?_
      refine k_lload f201_121 rfl ?_
      refine k_lconst (v := 1103515245) f201_123 rfl ?_
      refine k_lmul f201_126 ?_
      refine k_lconst (v := 12345) f201_127 rfl ?_
      refine k_ladd f201_130 ?_
      refine k_lconst (v := 2147483648) f201_131 rfl ?_
      refine k_lrem f201_134 (by decide) ?_
      rw [nx_d hX1]
      refine k_lstore (L' := [.ref 51, .int (nI t), .int (nI M), .int (nI D), .int (wh), .long (lN (nx (nx y.1))), zU, .int (al), .int (nI j), .int (nI i), .int (nI (d1 P y.1)), u11, u12]) f201_135 rfl rfl ?_
      refine k_lload f201_137 rfl ?_
      refine k_lconst (v := 65536) f201_139 rfl ?_
      refine k_ldiv f201_142 (by decide) ?_
      refine k_aload f201_143 rfl ?_
      refine k_getr (q := 62) f201_144 hS.o51 rfl hR.r51_25 ?_
      refine k_iconst (v := 0) f201_147 rfl ?_
      refine k_ia (k := 0) (w := nI P) f201_148 hS.a62 rfl (by decide) (by decide) ((congrFun hz.1 0).trans hmb.1) ?_
      refine k_i2l f201_149 ?_
      refine k_lrem f201_150 hPl ?_
      refine k_l2i f201_151 ?_
      rw [dr_d hX2 hP hP11]
      refine k_istore (L' := [.ref 51, .int (nI t), .int (nI M), .int (nI D), .int (wh), .long (lN (nx (nx y.1))), zU, .int (al), .int (nI j), .int (nI i), .int (nI (d1 P y.1)), .int (nI (d2 P y.1)), u12]) f201_152 rfl rfl ?_
      refine k_iconst (v := 56) f201_154 rfl ?_
      refine k_iconst (v := 3) f201_156 rfl ?_
      refine k_aload f201_157 rfl ?_
      refine k_getr (q := 63) f201_158 hS.o51 rfl hR.r51_27 ?_
      refine k_iconst (v := 2) f201_161 rfl ?_
      refine k_ia (k := 2) (w := nI m) f201_162 hS.a63 rfl (by decide) (by decide) e63 ?_
      refine k_imul f201_163 ?_
      refine k_iadd f201_164 ?_
      refine k_istore (L' := [.ref 51, .int (nI t), .int (nI M), .int (nI D), .int (wh), .long (lN (nx (nx y.1))), zU, .int (al), .int (nI j), .int (nI i), .int (nI (d1 P y.1)), .int (nI (d2 P y.1)), .int ((56) + ((3) * (nI m)))]) f201_165 rfl rfl ?_
      refine k_aload f201_167 rfl ?_
      refine k_getr (q := 62) f201_168 hS.o51 rfl hR.r51_25 ?_
      refine k_iload f201_171 rfl ?_
      refine k_aload f201_173 rfl ?_
      refine k_getr (q := 62) f201_174 hS.o51 rfl hR.r51_25 ?_
      refine k_iconst (v := 3) f201_177 rfl ?_
      refine k_ia (k := 3) (w := y.2.1 3) f201_178 hS.a62 rfl (by decide) (by decide) (congrFun hz.1 3) ?_
      refine k_is (k := 56 + 3 * m) f201_179 hS.a62 (ix_m0 m) (by omega) (by decide) ?_
      refine k_aload f201_180 rfl ?_
      refine k_getr (q := 62) f201_181 hS.o51 rfl hR.r51_25 ?_
      refine k_iload f201_184 rfl ?_
      refine k_iconst (v := 1) f201_186 rfl ?_
      refine k_iadd f201_187 ?_
      refine k_iload f201_188 rfl ?_
      refine k_is (k := 56 + 3 * m + 1) f201_190 hS.a62 (ix_mk m 1) (by omega) (by decide) ?_
      refine k_aload f201_191 rfl ?_
      refine k_getr (q := 62) f201_192 hS.o51 rfl hR.r51_25 ?_
      refine k_iload f201_195 rfl ?_
      refine k_iconst (v := 2) f201_197 rfl ?_
      refine k_iadd f201_198 ?_
      refine k_iload f201_199 rfl ?_
      refine k_is (k := 56 + 3 * m + 2) f201_201 hS.a62 (ix_mk m 2) (by omega) (by decide) ?_
      refine k_aload f201_202 rfl ?_
      refine k_getr (q := 62) f201_203 hS.o51 rfl hR.r51_25 ?_
      refine k_iconst (v := 2) f201_206 rfl ?_
      refine k_aload f201_207 rfl ?_
      refine k_getr (q := 63) f201_208 hS.o51 rfl hR.r51_27 ?_
      refine k_iconst (v := 2) f201_211 rfl ?_
      refine k_ia (k := 2) (w := nI m) f201_212 hS.a63 rfl (by decide) (by decide) (Eq.trans (z_u_p _ _ _ _ (by decide)) (Eq.trans (z_u_p _ _ _ _ (by decide)) (Eq.trans (z_u_p _ _ _ _ (by decide)) e63))) ?_
      refine k_iload f201_213 rfl ?_
      refine k_iload f201_215 rfl ?_
      refine k_ic_ne f201_217 (fun h_ => absurd (congrArg nI hab) h_) (fun _ => ?_)
      refine k_iconst (v := 0) f201_220 rfl ?_
      refine k_goto f201_221 ?_
      refine k_iadd f201_225 ?_
      refine k_is (k := 2) f201_226 hS.a62 rfl (by decide) (by decide) ?_
      refine k_aload f201_227 rfl ?_
      refine k_iload f201_228 rfl ?_
      rw [show (nI m) + (0) = nI (if d1 P y.1 = d2 P y.1 then m else m + 1) from by rw [if_pos hab]; exact Int32.add_zero _]
      refine k_callv (as := [.int (nI t)]) (rest := []) f201_229 hS.o51 rfl rfl rfl rfl (q_passes (z := (rwY y.2.1 m (d1 P y.1) (d2 P y.1), y.2.2)) (m := if d1 P y.1 = d2 P y.1 then m else m + 1) hR hS ht6 hA ht ((rwY_o _ (by omega) (by omega)).trans hn) hn8 (hmb.mw hm24 hP11 b1 b2) hz.y) ?_
      rintro _ _ ⟨rfl, I1, J1, rfl, hz1⟩
      refine k_iinc (w := nI (i + 1)) (L' := [.ref 51, .int (nI t), .int (nI M), .int (nI D), .int (wh), .long (lN (nx (nx y.1))), zU, .int (al), .int (nI j), .int (nI (i + 1)), .int (nI (d1 P y.1)), .int (nI (d2 P y.1)), .int ((56) + ((3) * (nI m)))]) f201_232 rfl (nI_1 i) rfl rfl ?_
      refine k_goto f201_235 ?_
      rw [foL_s] at hf
      have ae : AE (rwY y.2.1 m (d1 P y.1) (d2 P y.1)) (yD (soB I0 t) n m P y).2.1 := AE.of hz1.2.2.2.1
      exact ih (i + 1) (yD (soB I0 t) n m P y) I1 J1 _ _ _ (by omega) ⟨hz1.re, (ae 1 (by omega)).trans ((rwY_o _ (by omega) (by omega)).trans hn), hmb.cg ((ae 0 (by omega)).trans (rwY_o _ (by omega) (by omega))) (fun i h1 h2 => (ae i (by omega)).trans (rwY_o _ (by omega) (by omega))), hX2, fun k hk => (ae k (by omega)).trans ((rwY_o _ (by omega) (by omega)).trans (htl k hk)), hf⟩
    · refine k_iload f201_82 rfl ?_
      refine k_iload f201_84 rfl ?_
      refine k_ic_ge f201_85 (fun h_ => absurd h_ (nI_ge hin (by omega))) (fun _ => ?_)
      refine k_lload f201_88 rfl ?_
      refine k_lconst (v := 1103515245) f201_90 rfl ?_
      refine k_lmul f201_93 ?_
      refine k_lconst (v := 12345) f201_94 rfl ?_
      refine k_ladd f201_97 ?_
      refine k_lconst (v := 2147483648) f201_98 rfl ?_
      refine k_lrem f201_101 (by decide) ?_
      rw [nx_d hX]
      refine k_lstore (L' := [.ref 51, .int (nI t), .int (nI M), .int (nI D), .int (wh), .long (lN (nx y.1)), zU, .int (al), .int (nI j), .int (nI i), u10, u11, u12]) f201_102 rfl rfl ?_
      refine k_lload f201_104 rfl ?_
      refine k_lconst (v := 65536) f201_106 rfl ?_
      refine k_ldiv f201_109 (by decide) ?_
      refine k_aload f201_110 rfl ?_
      refine k_getr (q := 62) f201_111 hS.o51 rfl hR.r51_25 ?_
      refine k_iconst (v := 0) f201_114 rfl ?_
      refine k_ia (k := 0) (w := nI P) f201_115 hS.a62 rfl (by decide) (by decide) ((congrFun hz.1 0).trans hmb.1) ?_
      refine k_i2l f201_116 ?_
      refine k_lrem f201_117 hPl ?_
      refine k_l2i f201_118 ?_
      rw [dr_d hX1 hP hP11]
      refine k_istore (L' := [.ref 51, .int (nI t), .int (nI M), .int (nI D), .int (wh), .long (lN (nx y.1)), zU, .int (al), .int (nI j), .int (nI i), .int (nI (d1 P y.1)), u11, u12]) f201_119 rfl rfl ?_
      refine k_lload f201_121 rfl ?_
      refine k_lconst (v := 1103515245) f201_123 rfl ?_
      refine k_lmul f201_126 ?_
      refine k_lconst (v := 12345) f201_127 rfl ?_
      refine k_ladd f201_130 ?_
      refine k_lconst (v := 2147483648) f201_131 rfl ?_
      refine k_lrem f201_134 (by decide) ?_
      rw [nx_d hX1]
      refine k_lstore (L' := [.ref 51, .int (nI t), .int (nI M), .int (nI D), .int (wh), .long (lN (nx (nx y.1))), zU, .int (al), .int (nI j), .int (nI i), .int (nI (d1 P y.1)), u11, u12]) f201_135 rfl rfl ?_
      refine k_lload f201_137 rfl ?_
      refine k_lconst (v := 65536) f201_139 rfl ?_
      refine k_ldiv f201_142 (by decide) ?_
      refine k_aload f201_143 rfl ?_
      refine k_getr (q := 62) f201_144 hS.o51 rfl hR.r51_25 ?_
      refine k_iconst (v := 0) f201_147 rfl ?_
      refine k_ia (k := 0) (w := nI P) f201_148 hS.a62 rfl (by decide) (by decide) ((congrFun hz.1 0).trans hmb.1) ?_
      refine k_i2l f201_149 ?_
      refine k_lrem f201_150 hPl ?_
      refine k_l2i f201_151 ?_
      rw [dr_d hX2 hP hP11]
      refine k_istore (L' := [.ref 51, .int (nI t), .int (nI M), .int (nI D), .int (wh), .long (lN (nx (nx y.1))), zU, .int (al), .int (nI j), .int (nI i), .int (nI (d1 P y.1)), .int (nI (d2 P y.1)), u12]) f201_152 rfl rfl ?_
      refine k_iconst (v := 56) f201_154 rfl ?_
      refine k_iconst (v := 3) f201_156 rfl ?_
      refine k_aload f201_157 rfl ?_
      refine k_getr (q := 63) f201_158 hS.o51 rfl hR.r51_27 ?_
      refine k_iconst (v := 2) f201_161 rfl ?_
      refine k_ia (k := 2) (w := nI m) f201_162 hS.a63 rfl (by decide) (by decide) e63 ?_
      refine k_imul f201_163 ?_
      refine k_iadd f201_164 ?_
      refine k_istore (L' := [.ref 51, .int (nI t), .int (nI M), .int (nI D), .int (wh), .long (lN (nx (nx y.1))), zU, .int (al), .int (nI j), .int (nI i), .int (nI (d1 P y.1)), .int (nI (d2 P y.1)), .int ((56) + ((3) * (nI m)))]) f201_165 rfl rfl ?_
      refine k_aload f201_167 rfl ?_
      refine k_getr (q := 62) f201_168 hS.o51 rfl hR.r51_25 ?_
      refine k_iload f201_171 rfl ?_
      refine k_aload f201_173 rfl ?_
      refine k_getr (q := 62) f201_174 hS.o51 rfl hR.r51_25 ?_
      refine k_iconst (v := 3) f201_177 rfl ?_
      refine k_ia (k := 3) (w := y.2.1 3) f201_178 hS.a62 rfl (by decide) (by decide) (congrFun hz.1 3) ?_
      refine k_is (k := 56 + 3 * m) f201_179 hS.a62 (ix_m0 m) (by omega) (by decide) ?_
      refine k_aload f201_180 rfl ?_
      refine k_getr (q := 62) f201_181 hS.o51 rfl hR.r51_25 ?_
      refine k_iload f201_184 rfl ?_
      refine k_iconst (v := 1) f201_186 rfl ?_
      refine k_iadd f201_187 ?_
      refine k_iload f201_188 rfl ?_
      refine k_is (k := 56 + 3 * m + 1) f201_190 hS.a62 (ix_mk m 1) (by omega) (by decide) ?_
      refine k_aload f201_191 rfl ?_
      refine k_getr (q := 62) f201_192 hS.o51 rfl hR.r51_25 ?_
      refine k_iload f201_195 rfl ?_
      refine k_iconst (v := 2) f201_197 rfl ?_
      refine k_iadd f201_198 ?_
      refine k_iload f201_199 rfl ?_
      refine k_is (k := 56 + 3 * m + 2) f201_201 hS.a62 (ix_mk m 2) (by omega) (by decide) ?_
      refine k_aload f201_202 rfl ?_
      refine k_getr (q := 62) f201_203 hS.o51 rfl hR.r51_25 ?_
      refine k_iconst (v := 2) f201_206 rfl ?_
      refine k_aload f201_207 rfl ?_
      refine k_getr (q := 63) f201_208 hS.o51 rfl hR.r51_27 ?_
      refine k_iconst (v := 2) f201_211 rfl ?_
      refine k_ia (k := 2) (w := nI m) f201_212 hS.a63 rfl (by decide) (by decide) (Eq.trans (z_u_p _ _ _ _ (by decide)) (Eq.trans (z_u_p _ _ _ _ (by decide)) (Eq.trans (z_u_p _ _ _ _ (by decide)) e63))) ?_
      refine k_iload f201_213 rfl ?_
      refine k_iload f201_215 rfl ?_
      refine k_ic_ne f201_217 (fun _ => ?_) (fun h_ => absurd ((fun q => hab ((nI_eq (by omega) (by omega)).mp q))) h_)
      refine k_iconst (v := 1) f201_224 rfl ?_
      refine k_iadd f201_225 ?_
      refine k_is (k := 2) f201_226 hS.a62 rfl (by decide) (by decide) ?_
      refine k_aload f201_227 rfl ?_
      refine k_iload f201_228 rfl ?_
      rw [show (nI m) + (1) = nI (if d1 P y.1 = d2 P y.1 then m else m + 1) from by rw [if_neg hab]; exact nI_1 m]
      refine k_callv (as := [.int (nI t)]) (rest := []) f201_229 hS.o51 rfl rfl rfl rfl (q_passes (z := (rwY y.2.1 m (d1 P y.1) (d2 P y.1), y.2.2)) (m := if d1 P y.1 = d2 P y.1 then m else m + 1) hR hS ht6 hA ht ((rwY_o _ (by omega) (by omega)).trans hn) hn8 (hmb.mw hm24 hP11 b1 b2) hz.y) ?_
      rintro _ _ ⟨rfl, I1, J1, rfl, hz1⟩
      refine k_iinc (w := nI (i + 1)) (L' := [.ref 51, .int (nI t), .int (nI M), .int (nI D), .int (wh), .long (lN (nx (nx y.1))), zU, .int (al), .int (nI j), .int (nI (i + 1)), .int (nI (d1 P y.1)), .int (nI (d2 P y.1)), .int ((56) + ((3) * (nI m)))]) f201_232 rfl (nI_1 i) rfl rfl ?_
      refine k_goto f201_235 ?_
      rw [foL_s] at hf
      have ae : AE (rwY y.2.1 m (d1 P y.1) (d2 P y.1)) (yD (soB I0 t) n m P y).2.1 := AE.of hz1.2.2.2.1
      exact ih (i + 1) (yD (soB I0 t) n m P y) I1 J1 _ _ _ (by omega) ⟨hz1.re, (ae 1 (by omega)).trans ((rwY_o _ (by omega) (by omega)).trans hn), hmb.cg ((ae 0 (by omega)).trans (rwY_o _ (by omega) (by omega))) (fun i h1 h2 => (ae i (by omega)).trans (rwY_o _ (by omega) (by omega))), hX2, fun k hk => (ae k (by omega)).trans ((rwY_o _ (by omega) (by omega)).trans (htl k hk)), hf⟩
