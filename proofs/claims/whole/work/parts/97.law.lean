/-! THE LAW'S LOOP, over what each pair of calls does. 'Op Inv yc ym as': from a memory with Inv j both answer alike, and Inv (j + 1) holds. -/
def Op (Inv : Nat → zM → Prop) (x : Nat × (Nat → Int32)) (yc ym : Nat) (as : List Value) : Prop := ∀ (j : Nat) (m : zM), j < 512 → Inv j m → ∃ (w : Int32) (m1 m2 : zM), zRn x 399 yc (.ref 0 :: as) m (some (.int w)) m1 ∧ zRn x 399 ym (.ref 51 :: as) m1 (some (.int w)) m2 ∧ Inv (j + 1) m2
/-- the shape that the law itself needs -/
def InvS (Inv : Nat → zM → Prop) : Prop := ∀ j m, Inv j m → zo m.2.2.2 0 10 ∧ zo m.2.2.2 51 11
theorem k_sl {x : Nat × (Nat → Int32)} {d Y pc np tg : Nat} {L S : List Value} {m : zM} {Q : Option Value → zM → Prop} {k : Nat} {i : Int32} (hf : z_fetch Y pc = some (.iaload, np, tg)) (hk : nI k = i) (hb : k < x.1) (hx : x.1 < 2 ^ 31) (kk : zOk x d Y np L (.int (x.2 k) :: S) m Q) : zOk x d Y pc L (.int i :: .retAddr 30 :: S) m Q := by
  subst hk
  exact k_sld hf (vp_in_nI hb hx) (nI_clamp (by omega)) kk
theorem law_gt {a b : Nat} (ha : a ≤ 3072) (hb : b ≤ 100000) (h : a < b + 6) : nI a - 6 < nI b := by
  rw [Int32.lt_iff_toInt_lt, nI_toInt (by omega), show (6 : Int32) = nI 6 from rfl, pk_sub_toInt (by omega) (by omega)]
  omega
/-- kinds and lengths of cells that are there stay -/
theorem zst_keep {x : Nat × (Nat → Int32)} {i : Instr} {np tg pc' : Nat} {L S L' S' : List Value} {m m' : zM} (h : z_st x i np tg L S m = some (.inl (pc', L', S', m'))) : ∀ p, p < zn m → p < zn m' ∧ zK m' p = zK m p ∧ zN m' p = zN m p := by
  have r0 : ∀ p, p < zn m → p < zn m ∧ zK m p = zK m p ∧ zN m p = zN m p := fun p hp => ⟨hp, rfl, rfl⟩
  cases i <;> simp only [z_st] at h <;> (repeat' (split at h)) <;> first
    | (cases h; done)
    | (cases h; exact r0)
    | (cases h; exact fun p hp => ⟨Nat.lt_succ_of_lt hp, z_1_ne (by omega), z_1_ne (by omega)⟩)
theorem zex_keep {x : Nat × (Nat → Int32)} : ∀ (n d Y pc : Nat) (L S : List Value) (m : zM) (r : Option Value) (m' : zM), z_ex x n d Y pc L S m = some (r, m') → ∀ p, p < zn m → p < zn m' ∧ zK m' p = zK m p ∧ zN m' p = zN m p := by
  intro n
  induction n with
  | zero => intro d Y pc L S m r m' h; simp [z_ex] at h
  | succ n ih =>
    intro d Y pc L S m r m' h
    have tr : ∀ {a b c : zM}, (∀ p, p < zn a → p < zn b ∧ zK b p = zK a p ∧ zN b p = zN a p) → (∀ p, p < zn b → p < zn c ∧ zK c p = zK b p ∧ zN c p = zN b p) → ∀ p, p < zn a → p < zn c ∧ zK c p = zK a p ∧ zN c p = zN a p := by
      intro a b c h1 h2 p hp
      obtain ⟨a1, a2, a3⟩ := h1 p hp
      obtain ⟨b1, b2, b3⟩ := h2 p a1
      exact ⟨b1, b2.trans a2, b3.trans a3⟩
    cases hf : z_fetch Y pc with
    | none => simp [z_ex, hf] at h
    | some q =>
      obtain ⟨i, np, tg⟩ := q
      cases hs : z_st x i np tg L S m with
      | none => simp [z_ex, hf, hs] at h
      | some o =>
        cases o with
        | inl q =>
          obtain ⟨pc1, L1, S1, m1⟩ := q
          simp only [z_ex, hf, hs] at h
          exact tr (zst_keep hs) (ih _ _ _ _ _ _ _ _ h)
        | inr o =>
          cases o with
          | inl v =>
            simp only [z_ex, hf, hs] at h
            cases h
            exact fun p hp => ⟨hp, rfl, rfl⟩
          | inr q =>
            obtain ⟨y, as, rest⟩ := q
            cases d with
            | zero => simp [z_ex, hf, hs] at h
            | succ d' =>
              simp only [z_ex, hf, hs] at h
              cases hc : z_ex x n d' y 0 (z_l0 as (z_ml.getD y 0)) [] m with
              | none => simp only [hc] at h; cases h
              | some w =>
                obtain ⟨v, m1⟩ := w
                simp only [hc] at h
                exact tr (ih _ _ _ _ _ _ _ _ hc) (ih _ _ _ _ _ _ _ _ h)
theorem zo_run {x : Nat × (Nat → Int32)} {d y : Nat} {as : List Value} {m m' : zM} {v : Option Value} {p c : Nat} (h : zRn x d y as m v m') (hz : zo m.2.2.2 p c) : zo m'.2.2.2 p c := by
  obtain ⟨n, v', m2, he, -, rfl⟩ := h
  obtain ⟨a1, a2, a3⟩ := zex_keep _ _ _ _ _ _ _ _ _ he p hz.1
  exact ⟨a1, a2.trans hz.2.1, a3.trans hz.2.2⟩
theorem lc_0 {Inv : Nat → zM → Prop} {x : Nat × (Nat → Int32)} {j : Nat} {m : zM} (hS : InvS Inv) (hO : Op Inv x 71 114 [.int (x.2 (6 * j + 1)), .int (x.2 (6 * j + 2)), .int (x.2 (6 * j + 3)), .int (x.2 (6 * j + 4)), .int (x.2 (6 * j + 5))]) (hj : 6 * j + 6 ≤ x.1) (hx : x.1 ≤ 3072) (hI : Inv j m) (ih : ∀ m2, Inv (j + 1) m2 → zOk x 400 215 18 [.retAddr 30, .ref 0, .ref 51, .int (nI (6 * (j + 1)))] [] m2 (fun v _ => v = some (.int 1))) : zOk x 400 215 156 [.retAddr 30, .ref 0, .ref 51, .int (nI (6 * j))] [] m (fun v _ => v = some (.int 1)) := by
  obtain ⟨w, m1, m2, h1, h2, hI2⟩ := hO j m (by omega) hI
  have hz : zo m1.2.2.2 51 11 := zo_run h1 (hS j m hI).2
  refine k_aload f215_156 rfl ?_
  refine k_aloadx f215_157 rfl (by decide) ?_
  refine k_iload f215_158 rfl ?_
  refine k_iconst (v := 1) f215_159 rfl ?_
  refine k_iadd f215_160 ?_
  refine k_sl (k := 6 * j + 1) f215_161 (nI_add (6 * j) 1).symm (by omega) (by omega) ?_
  refine k_aloadx f215_162 rfl (by decide) ?_
  refine k_iload f215_163 rfl ?_
  refine k_iconst (v := 2) f215_164 rfl ?_
  refine k_iadd f215_165 ?_
  refine k_sl (k := 6 * j + 2) f215_166 (nI_add (6 * j) 2).symm (by omega) (by omega) ?_
  refine k_aloadx f215_167 rfl (by decide) ?_
  refine k_iload f215_168 rfl ?_
  refine k_iconst (v := 3) f215_169 rfl ?_
  refine k_iadd f215_170 ?_
  refine k_sl (k := 6 * j + 3) f215_171 (nI_add (6 * j) 3).symm (by omega) (by omega) ?_
  refine k_aloadx f215_172 rfl (by decide) ?_
  refine k_iload f215_173 rfl ?_
  refine k_iconst (v := 4) f215_174 rfl ?_
  refine k_iadd f215_175 ?_
  refine k_sl (k := 6 * j + 4) f215_176 (nI_add (6 * j) 4).symm (by omega) (by omega) ?_
  refine k_aloadx f215_177 rfl (by decide) ?_
  refine k_iload f215_178 rfl ?_
  refine k_iconst (v := 5) f215_179 rfl ?_
  refine k_iadd f215_180 ?_
  refine k_sl (k := 6 * j + 5) f215_181 (nI_add (6 * j) 5).symm (by omega) (by omega) ?_
  refine e_v (I := m.1) (J := m.2.1) (R := m.2.2.1) (G := m.2.2.2) (as := [.int (x.2 (6 * j + 5)), .int (x.2 (6 * j + 4)), .int (x.2 (6 * j + 3)), .int (x.2 (6 * j + 2)), .int (x.2 (6 * j + 1))]) (rest := []) f215_182 (hS j m hI).1 rfl rfl rfl h1 ?_
  refine k_aload f215_185 rfl ?_
  refine k_aloadx f215_186 rfl (by decide) ?_
  refine k_iload f215_187 rfl ?_
  refine k_iconst (v := 1) f215_188 rfl ?_
  refine k_iadd f215_189 ?_
  refine k_sl (k := 6 * j + 1) f215_190 (nI_add (6 * j) 1).symm (by omega) (by omega) ?_
  refine k_aloadx f215_191 rfl (by decide) ?_
  refine k_iload f215_192 rfl ?_
  refine k_iconst (v := 2) f215_193 rfl ?_
  refine k_iadd f215_194 ?_
  refine k_sl (k := 6 * j + 2) f215_195 (nI_add (6 * j) 2).symm (by omega) (by omega) ?_
  refine k_aloadx f215_196 rfl (by decide) ?_
  refine k_iload f215_197 rfl ?_
  refine k_iconst (v := 3) f215_198 rfl ?_
  refine k_iadd f215_199 ?_
  refine k_sl (k := 6 * j + 3) f215_200 (nI_add (6 * j) 3).symm (by omega) (by omega) ?_
  refine k_aloadx f215_201 rfl (by decide) ?_
  refine k_iload f215_202 rfl ?_
  refine k_iconst (v := 4) f215_203 rfl ?_
  refine k_iadd f215_204 ?_
  refine k_sl (k := 6 * j + 4) f215_205 (nI_add (6 * j) 4).symm (by omega) (by omega) ?_
  refine k_aloadx f215_206 rfl (by decide) ?_
  refine k_iload f215_207 rfl ?_
  refine k_iconst (v := 5) f215_208 rfl ?_
  refine k_iadd f215_209 ?_
  refine k_sl (k := 6 * j + 5) f215_210 (nI_add (6 * j) 5).symm (by omega) (by omega) ?_
  refine e_v (I := m1.1) (J := m1.2.1) (R := m1.2.2.1) (G := m1.2.2.2) (as := [.int (x.2 (6 * j + 5)), .int (x.2 (6 * j + 4)), .int (x.2 (6 * j + 3)), .int (x.2 (6 * j + 2)), .int (x.2 (6 * j + 1))]) (rest := [.int w]) f215_211 hz rfl rfl rfl h2 ?_
  refine k_ic_eq f215_214 (fun _ => ?_) (fun h => absurd rfl h)
  refine k_iinc (w := nI (6 * (j + 1))) (L' := [.retAddr 30, .ref 0, .ref 51, .int (nI (6 * (j + 1)))]) f215_907 rfl (nI_add (6 * j) 6) rfl rfl ?_
  refine k_goto f215_910 ?_
  exact ih m2 hI2
theorem lc_1 {Inv : Nat → zM → Prop} {x : Nat × (Nat → Int32)} {j : Nat} {m : zM} (hS : InvS Inv) (hO : Op Inv x 72 115 [.int (x.2 (6 * j + 1))]) (hj : 6 * j + 6 ≤ x.1) (hx : x.1 ≤ 3072) (hI : Inv j m) (ih : ∀ m2, Inv (j + 1) m2 → zOk x 400 215 18 [.retAddr 30, .ref 0, .ref 51, .int (nI (6 * (j + 1)))] [] m2 (fun v _ => v = some (.int 1))) : zOk x 400 215 219 [.retAddr 30, .ref 0, .ref 51, .int (nI (6 * j))] [] m (fun v _ => v = some (.int 1)) := by
  obtain ⟨w, m1, m2, h1, h2, hI2⟩ := hO j m (by omega) hI
  have hz : zo m1.2.2.2 51 11 := zo_run h1 (hS j m hI).2
  refine k_aload f215_219 rfl ?_
  refine k_aloadx f215_220 rfl (by decide) ?_
  refine k_iload f215_221 rfl ?_
  refine k_iconst (v := 1) f215_222 rfl ?_
  refine k_iadd f215_223 ?_
  refine k_sl (k := 6 * j + 1) f215_224 (nI_add (6 * j) 1).symm (by omega) (by omega) ?_
  refine e_v (I := m.1) (J := m.2.1) (R := m.2.2.1) (G := m.2.2.2) (as := [.int (x.2 (6 * j + 1))]) (rest := []) f215_225 (hS j m hI).1 rfl rfl rfl h1 ?_
  refine k_aload f215_228 rfl ?_
  refine k_aloadx f215_229 rfl (by decide) ?_
  refine k_iload f215_230 rfl ?_
  refine k_iconst (v := 1) f215_231 rfl ?_
  refine k_iadd f215_232 ?_
  refine k_sl (k := 6 * j + 1) f215_233 (nI_add (6 * j) 1).symm (by omega) (by omega) ?_
  refine e_v (I := m1.1) (J := m1.2.1) (R := m1.2.2.1) (G := m1.2.2.2) (as := [.int (x.2 (6 * j + 1))]) (rest := [.int w]) f215_234 hz rfl rfl rfl h2 ?_
  refine k_ic_eq f215_237 (fun _ => ?_) (fun h => absurd rfl h)
  refine k_iinc (w := nI (6 * (j + 1))) (L' := [.retAddr 30, .ref 0, .ref 51, .int (nI (6 * (j + 1)))]) f215_907 rfl (nI_add (6 * j) 6) rfl rfl ?_
  refine k_goto f215_910 ?_
  exact ih m2 hI2
theorem lc_2 {Inv : Nat → zM → Prop} {x : Nat × (Nat → Int32)} {j : Nat} {m : zM} (hS : InvS Inv) (hO : Op Inv x 73 147 []) (hj : 6 * j + 6 ≤ x.1) (hx : x.1 ≤ 3072) (hI : Inv j m) (ih : ∀ m2, Inv (j + 1) m2 → zOk x 400 215 18 [.retAddr 30, .ref 0, .ref 51, .int (nI (6 * (j + 1)))] [] m2 (fun v _ => v = some (.int 1))) : zOk x 400 215 242 [.retAddr 30, .ref 0, .ref 51, .int (nI (6 * j))] [] m (fun v _ => v = some (.int 1)) := by
  obtain ⟨w, m1, m2, h1, h2, hI2⟩ := hO j m (by omega) hI
  have hz : zo m1.2.2.2 51 11 := zo_run h1 (hS j m hI).2
  refine k_aload f215_242 rfl ?_
  refine e_v (I := m.1) (J := m.2.1) (R := m.2.2.1) (G := m.2.2.2) (as := []) (rest := []) f215_243 (hS j m hI).1 rfl rfl rfl h1 ?_
  refine k_aload f215_246 rfl ?_
  refine e_v (I := m1.1) (J := m1.2.1) (R := m1.2.2.1) (G := m1.2.2.2) (as := []) (rest := [.int w]) f215_247 hz rfl rfl rfl h2 ?_
  refine k_ic_eq f215_250 (fun _ => ?_) (fun h => absurd rfl h)
  refine k_iinc (w := nI (6 * (j + 1))) (L' := [.retAddr 30, .ref 0, .ref 51, .int (nI (6 * (j + 1)))]) f215_907 rfl (nI_add (6 * j) 6) rfl rfl ?_
  refine k_goto f215_910 ?_
  exact ih m2 hI2
theorem lc_3 {Inv : Nat → zM → Prop} {x : Nat × (Nat → Int32)} {j : Nat} {m : zM} (hS : InvS Inv) (hO : Op Inv x 74 146 []) (hj : 6 * j + 6 ≤ x.1) (hx : x.1 ≤ 3072) (hI : Inv j m) (ih : ∀ m2, Inv (j + 1) m2 → zOk x 400 215 18 [.retAddr 30, .ref 0, .ref 51, .int (nI (6 * (j + 1)))] [] m2 (fun v _ => v = some (.int 1))) : zOk x 400 215 255 [.retAddr 30, .ref 0, .ref 51, .int (nI (6 * j))] [] m (fun v _ => v = some (.int 1)) := by
  obtain ⟨w, m1, m2, h1, h2, hI2⟩ := hO j m (by omega) hI
  have hz : zo m1.2.2.2 51 11 := zo_run h1 (hS j m hI).2
  refine k_aload f215_255 rfl ?_
  refine e_v (I := m.1) (J := m.2.1) (R := m.2.2.1) (G := m.2.2.2) (as := []) (rest := []) f215_256 (hS j m hI).1 rfl rfl rfl h1 ?_
  refine k_aload f215_259 rfl ?_
  refine e_v (I := m1.1) (J := m1.2.1) (R := m1.2.2.1) (G := m1.2.2.2) (as := []) (rest := [.int w]) f215_260 hz rfl rfl rfl h2 ?_
  refine k_ic_eq f215_263 (fun _ => ?_) (fun h => absurd rfl h)
  refine k_iinc (w := nI (6 * (j + 1))) (L' := [.retAddr 30, .ref 0, .ref 51, .int (nI (6 * (j + 1)))]) f215_907 rfl (nI_add (6 * j) 6) rfl rfl ?_
  refine k_goto f215_910 ?_
  exact ih m2 hI2
theorem lc_4 {Inv : Nat → zM → Prop} {x : Nat × (Nat → Int32)} {j : Nat} {m : zM} (hS : InvS Inv) (hO : Op Inv x 75 161 [.int (x.2 (6 * j + 1))]) (hj : 6 * j + 6 ≤ x.1) (hx : x.1 ≤ 3072) (hI : Inv j m) (ih : ∀ m2, Inv (j + 1) m2 → zOk x 400 215 18 [.retAddr 30, .ref 0, .ref 51, .int (nI (6 * (j + 1)))] [] m2 (fun v _ => v = some (.int 1))) : zOk x 400 215 268 [.retAddr 30, .ref 0, .ref 51, .int (nI (6 * j))] [] m (fun v _ => v = some (.int 1)) := by
  obtain ⟨w, m1, m2, h1, h2, hI2⟩ := hO j m (by omega) hI
  have hz : zo m1.2.2.2 51 11 := zo_run h1 (hS j m hI).2
  refine k_aload f215_268 rfl ?_
  refine k_aloadx f215_269 rfl (by decide) ?_
  refine k_iload f215_270 rfl ?_
  refine k_iconst (v := 1) f215_271 rfl ?_
  refine k_iadd f215_272 ?_
  refine k_sl (k := 6 * j + 1) f215_273 (nI_add (6 * j) 1).symm (by omega) (by omega) ?_
  refine e_v (I := m.1) (J := m.2.1) (R := m.2.2.1) (G := m.2.2.2) (as := [.int (x.2 (6 * j + 1))]) (rest := []) f215_274 (hS j m hI).1 rfl rfl rfl h1 ?_
  refine k_aload f215_277 rfl ?_
  refine k_aloadx f215_278 rfl (by decide) ?_
  refine k_iload f215_279 rfl ?_
  refine k_iconst (v := 1) f215_280 rfl ?_
  refine k_iadd f215_281 ?_
  refine k_sl (k := 6 * j + 1) f215_282 (nI_add (6 * j) 1).symm (by omega) (by omega) ?_
  refine e_v (I := m1.1) (J := m1.2.1) (R := m1.2.2.1) (G := m1.2.2.2) (as := [.int (x.2 (6 * j + 1))]) (rest := [.int w]) f215_283 hz rfl rfl rfl h2 ?_
  refine k_ic_eq f215_286 (fun _ => ?_) (fun h => absurd rfl h)
  refine k_iinc (w := nI (6 * (j + 1))) (L' := [.retAddr 30, .ref 0, .ref 51, .int (nI (6 * (j + 1)))]) f215_907 rfl (nI_add (6 * j) 6) rfl rfl ?_
  refine k_goto f215_910 ?_
  exact ih m2 hI2
theorem lc_5 {Inv : Nat → zM → Prop} {x : Nat × (Nat → Int32)} {j : Nat} {m : zM} (hS : InvS Inv) (hO : Op Inv x 76 162 [.int (x.2 (6 * j + 1)), .int (x.2 (6 * j + 2))]) (hj : 6 * j + 6 ≤ x.1) (hx : x.1 ≤ 3072) (hI : Inv j m) (ih : ∀ m2, Inv (j + 1) m2 → zOk x 400 215 18 [.retAddr 30, .ref 0, .ref 51, .int (nI (6 * (j + 1)))] [] m2 (fun v _ => v = some (.int 1))) : zOk x 400 215 291 [.retAddr 30, .ref 0, .ref 51, .int (nI (6 * j))] [] m (fun v _ => v = some (.int 1)) := by
  obtain ⟨w, m1, m2, h1, h2, hI2⟩ := hO j m (by omega) hI
  have hz : zo m1.2.2.2 51 11 := zo_run h1 (hS j m hI).2
  refine k_aload f215_291 rfl ?_
  refine k_aloadx f215_292 rfl (by decide) ?_
  refine k_iload f215_293 rfl ?_
  refine k_iconst (v := 1) f215_294 rfl ?_
  refine k_iadd f215_295 ?_
  refine k_sl (k := 6 * j + 1) f215_296 (nI_add (6 * j) 1).symm (by omega) (by omega) ?_
  refine k_aloadx f215_297 rfl (by decide) ?_
  refine k_iload f215_298 rfl ?_
  refine k_iconst (v := 2) f215_299 rfl ?_
  refine k_iadd f215_300 ?_
  refine k_sl (k := 6 * j + 2) f215_301 (nI_add (6 * j) 2).symm (by omega) (by omega) ?_
  refine e_v (I := m.1) (J := m.2.1) (R := m.2.2.1) (G := m.2.2.2) (as := [.int (x.2 (6 * j + 2)), .int (x.2 (6 * j + 1))]) (rest := []) f215_302 (hS j m hI).1 rfl rfl rfl h1 ?_
  refine k_aload f215_305 rfl ?_
  refine k_aloadx f215_306 rfl (by decide) ?_
  refine k_iload f215_307 rfl ?_
  refine k_iconst (v := 1) f215_308 rfl ?_
  refine k_iadd f215_309 ?_
  refine k_sl (k := 6 * j + 1) f215_310 (nI_add (6 * j) 1).symm (by omega) (by omega) ?_
  refine k_aloadx f215_311 rfl (by decide) ?_
  refine k_iload f215_312 rfl ?_
  refine k_iconst (v := 2) f215_313 rfl ?_
  refine k_iadd f215_314 ?_
  refine k_sl (k := 6 * j + 2) f215_315 (nI_add (6 * j) 2).symm (by omega) (by omega) ?_
  refine e_v (I := m1.1) (J := m1.2.1) (R := m1.2.2.1) (G := m1.2.2.2) (as := [.int (x.2 (6 * j + 2)), .int (x.2 (6 * j + 1))]) (rest := [.int w]) f215_316 hz rfl rfl rfl h2 ?_
  refine k_ic_eq f215_319 (fun _ => ?_) (fun h => absurd rfl h)
  refine k_iinc (w := nI (6 * (j + 1))) (L' := [.retAddr 30, .ref 0, .ref 51, .int (nI (6 * (j + 1)))]) f215_907 rfl (nI_add (6 * j) 6) rfl rfl ?_
  refine k_goto f215_910 ?_
  exact ih m2 hI2
theorem lc_6 {Inv : Nat → zM → Prop} {x : Nat × (Nat → Int32)} {j : Nat} {m : zM} (hS : InvS Inv) (hO : Op Inv x 77 163 [.int (x.2 (6 * j + 1)), .int (x.2 (6 * j + 2))]) (hj : 6 * j + 6 ≤ x.1) (hx : x.1 ≤ 3072) (hI : Inv j m) (ih : ∀ m2, Inv (j + 1) m2 → zOk x 400 215 18 [.retAddr 30, .ref 0, .ref 51, .int (nI (6 * (j + 1)))] [] m2 (fun v _ => v = some (.int 1))) : zOk x 400 215 324 [.retAddr 30, .ref 0, .ref 51, .int (nI (6 * j))] [] m (fun v _ => v = some (.int 1)) := by
  obtain ⟨w, m1, m2, h1, h2, hI2⟩ := hO j m (by omega) hI
  have hz : zo m1.2.2.2 51 11 := zo_run h1 (hS j m hI).2
  refine k_aload f215_324 rfl ?_
  refine k_aloadx f215_325 rfl (by decide) ?_
  refine k_iload f215_326 rfl ?_
  refine k_iconst (v := 1) f215_327 rfl ?_
  refine k_iadd f215_328 ?_
  refine k_sl (k := 6 * j + 1) f215_329 (nI_add (6 * j) 1).symm (by omega) (by omega) ?_
  refine k_aloadx f215_330 rfl (by decide) ?_
  refine k_iload f215_331 rfl ?_
  refine k_iconst (v := 2) f215_332 rfl ?_
  refine k_iadd f215_333 ?_
  refine k_sl (k := 6 * j + 2) f215_334 (nI_add (6 * j) 2).symm (by omega) (by omega) ?_
  refine e_v (I := m.1) (J := m.2.1) (R := m.2.2.1) (G := m.2.2.2) (as := [.int (x.2 (6 * j + 2)), .int (x.2 (6 * j + 1))]) (rest := []) f215_335 (hS j m hI).1 rfl rfl rfl h1 ?_
  refine k_aload f215_338 rfl ?_
  refine k_aloadx f215_339 rfl (by decide) ?_
  refine k_iload f215_340 rfl ?_
  refine k_iconst (v := 1) f215_341 rfl ?_
  refine k_iadd f215_342 ?_
  refine k_sl (k := 6 * j + 1) f215_343 (nI_add (6 * j) 1).symm (by omega) (by omega) ?_
  refine k_aloadx f215_344 rfl (by decide) ?_
  refine k_iload f215_345 rfl ?_
  refine k_iconst (v := 2) f215_346 rfl ?_
  refine k_iadd f215_347 ?_
  refine k_sl (k := 6 * j + 2) f215_348 (nI_add (6 * j) 2).symm (by omega) (by omega) ?_
  refine e_v (I := m1.1) (J := m1.2.1) (R := m1.2.2.1) (G := m1.2.2.2) (as := [.int (x.2 (6 * j + 2)), .int (x.2 (6 * j + 1))]) (rest := [.int w]) f215_349 hz rfl rfl rfl h2 ?_
  refine k_ic_eq f215_352 (fun _ => ?_) (fun h => absurd rfl h)
  refine k_iinc (w := nI (6 * (j + 1))) (L' := [.retAddr 30, .ref 0, .ref 51, .int (nI (6 * (j + 1)))]) f215_907 rfl (nI_add (6 * j) 6) rfl rfl ?_
  refine k_goto f215_910 ?_
  exact ih m2 hI2
theorem lc_7 {Inv : Nat → zM → Prop} {x : Nat × (Nat → Int32)} {j : Nat} {m : zM} (hS : InvS Inv) (hO : Op Inv x 78 164 [.int (x.2 (6 * j + 1)), .int (x.2 (6 * j + 2))]) (hj : 6 * j + 6 ≤ x.1) (hx : x.1 ≤ 3072) (hI : Inv j m) (ih : ∀ m2, Inv (j + 1) m2 → zOk x 400 215 18 [.retAddr 30, .ref 0, .ref 51, .int (nI (6 * (j + 1)))] [] m2 (fun v _ => v = some (.int 1))) : zOk x 400 215 357 [.retAddr 30, .ref 0, .ref 51, .int (nI (6 * j))] [] m (fun v _ => v = some (.int 1)) := by
  obtain ⟨w, m1, m2, h1, h2, hI2⟩ := hO j m (by omega) hI
  have hz : zo m1.2.2.2 51 11 := zo_run h1 (hS j m hI).2
  refine k_aload f215_357 rfl ?_
  refine k_aloadx f215_358 rfl (by decide) ?_
  refine k_iload f215_359 rfl ?_
  refine k_iconst (v := 1) f215_360 rfl ?_
  refine k_iadd f215_361 ?_
  refine k_sl (k := 6 * j + 1) f215_362 (nI_add (6 * j) 1).symm (by omega) (by omega) ?_
  refine k_aloadx f215_363 rfl (by decide) ?_
  refine k_iload f215_364 rfl ?_
  refine k_iconst (v := 2) f215_365 rfl ?_
  refine k_iadd f215_366 ?_
  refine k_sl (k := 6 * j + 2) f215_367 (nI_add (6 * j) 2).symm (by omega) (by omega) ?_
  refine e_v (I := m.1) (J := m.2.1) (R := m.2.2.1) (G := m.2.2.2) (as := [.int (x.2 (6 * j + 2)), .int (x.2 (6 * j + 1))]) (rest := []) f215_368 (hS j m hI).1 rfl rfl rfl h1 ?_
  refine k_aload f215_371 rfl ?_
  refine k_aloadx f215_372 rfl (by decide) ?_
  refine k_iload f215_373 rfl ?_
  refine k_iconst (v := 1) f215_374 rfl ?_
  refine k_iadd f215_375 ?_
  refine k_sl (k := 6 * j + 1) f215_376 (nI_add (6 * j) 1).symm (by omega) (by omega) ?_
  refine k_aloadx f215_377 rfl (by decide) ?_
  refine k_iload f215_378 rfl ?_
  refine k_iconst (v := 2) f215_379 rfl ?_
  refine k_iadd f215_380 ?_
  refine k_sl (k := 6 * j + 2) f215_381 (nI_add (6 * j) 2).symm (by omega) (by omega) ?_
  refine e_v (I := m1.1) (J := m1.2.1) (R := m1.2.2.1) (G := m1.2.2.2) (as := [.int (x.2 (6 * j + 2)), .int (x.2 (6 * j + 1))]) (rest := [.int w]) f215_382 hz rfl rfl rfl h2 ?_
  refine k_ic_eq f215_385 (fun _ => ?_) (fun h => absurd rfl h)
  refine k_iinc (w := nI (6 * (j + 1))) (L' := [.retAddr 30, .ref 0, .ref 51, .int (nI (6 * (j + 1)))]) f215_907 rfl (nI_add (6 * j) 6) rfl rfl ?_
  refine k_goto f215_910 ?_
  exact ih m2 hI2
theorem lc_8 {Inv : Nat → zM → Prop} {x : Nat × (Nat → Int32)} {j : Nat} {m : zM} (hS : InvS Inv) (hO : Op Inv x 79 174 [.int (x.2 (6 * j + 1)), .int (x.2 (6 * j + 2))]) (hj : 6 * j + 6 ≤ x.1) (hx : x.1 ≤ 3072) (hI : Inv j m) (ih : ∀ m2, Inv (j + 1) m2 → zOk x 400 215 18 [.retAddr 30, .ref 0, .ref 51, .int (nI (6 * (j + 1)))] [] m2 (fun v _ => v = some (.int 1))) : zOk x 400 215 390 [.retAddr 30, .ref 0, .ref 51, .int (nI (6 * j))] [] m (fun v _ => v = some (.int 1)) := by
  obtain ⟨w, m1, m2, h1, h2, hI2⟩ := hO j m (by omega) hI
  have hz : zo m1.2.2.2 51 11 := zo_run h1 (hS j m hI).2
  refine k_aload f215_390 rfl ?_
  refine k_aloadx f215_391 rfl (by decide) ?_
  refine k_iload f215_392 rfl ?_
  refine k_iconst (v := 1) f215_393 rfl ?_
  refine k_iadd f215_394 ?_
  refine k_sl (k := 6 * j + 1) f215_395 (nI_add (6 * j) 1).symm (by omega) (by omega) ?_
  refine k_aloadx f215_396 rfl (by decide) ?_
  refine k_iload f215_397 rfl ?_
  refine k_iconst (v := 2) f215_398 rfl ?_
  refine k_iadd f215_399 ?_
  refine k_sl (k := 6 * j + 2) f215_400 (nI_add (6 * j) 2).symm (by omega) (by omega) ?_
  refine e_v (I := m.1) (J := m.2.1) (R := m.2.2.1) (G := m.2.2.2) (as := [.int (x.2 (6 * j + 2)), .int (x.2 (6 * j + 1))]) (rest := []) f215_401 (hS j m hI).1 rfl rfl rfl h1 ?_
  refine k_aload f215_404 rfl ?_
  refine k_aloadx f215_405 rfl (by decide) ?_
  refine k_iload f215_406 rfl ?_
  refine k_iconst (v := 1) f215_407 rfl ?_
  refine k_iadd f215_408 ?_
  refine k_sl (k := 6 * j + 1) f215_409 (nI_add (6 * j) 1).symm (by omega) (by omega) ?_
  refine k_aloadx f215_410 rfl (by decide) ?_
  refine k_iload f215_411 rfl ?_
  refine k_iconst (v := 2) f215_412 rfl ?_
  refine k_iadd f215_413 ?_
  refine k_sl (k := 6 * j + 2) f215_414 (nI_add (6 * j) 2).symm (by omega) (by omega) ?_
  refine e_v (I := m1.1) (J := m1.2.1) (R := m1.2.2.1) (G := m1.2.2.2) (as := [.int (x.2 (6 * j + 2)), .int (x.2 (6 * j + 1))]) (rest := [.int w]) f215_415 hz rfl rfl rfl h2 ?_
  refine k_ic_eq f215_418 (fun _ => ?_) (fun h => absurd rfl h)
  refine k_iinc (w := nI (6 * (j + 1))) (L' := [.retAddr 30, .ref 0, .ref 51, .int (nI (6 * (j + 1)))]) f215_907 rfl (nI_add (6 * j) 6) rfl rfl ?_
  refine k_goto f215_910 ?_
  exact ih m2 hI2
theorem lc_9 {Inv : Nat → zM → Prop} {x : Nat × (Nat → Int32)} {j : Nat} {m : zM} (hS : InvS Inv) (hO : Op Inv x 80 175 [.int (x.2 (6 * j + 1))]) (hj : 6 * j + 6 ≤ x.1) (hx : x.1 ≤ 3072) (hI : Inv j m) (ih : ∀ m2, Inv (j + 1) m2 → zOk x 400 215 18 [.retAddr 30, .ref 0, .ref 51, .int (nI (6 * (j + 1)))] [] m2 (fun v _ => v = some (.int 1))) : zOk x 400 215 423 [.retAddr 30, .ref 0, .ref 51, .int (nI (6 * j))] [] m (fun v _ => v = some (.int 1)) := by
  obtain ⟨w, m1, m2, h1, h2, hI2⟩ := hO j m (by omega) hI
  have hz : zo m1.2.2.2 51 11 := zo_run h1 (hS j m hI).2
  refine k_aload f215_423 rfl ?_
  refine k_aloadx f215_424 rfl (by decide) ?_
  refine k_iload f215_425 rfl ?_
  refine k_iconst (v := 1) f215_426 rfl ?_
  refine k_iadd f215_427 ?_
  refine k_sl (k := 6 * j + 1) f215_428 (nI_add (6 * j) 1).symm (by omega) (by omega) ?_
  refine e_v (I := m.1) (J := m.2.1) (R := m.2.2.1) (G := m.2.2.2) (as := [.int (x.2 (6 * j + 1))]) (rest := []) f215_429 (hS j m hI).1 rfl rfl rfl h1 ?_
  refine k_aload f215_432 rfl ?_
  refine k_aloadx f215_433 rfl (by decide) ?_
  refine k_iload f215_434 rfl ?_
  refine k_iconst (v := 1) f215_435 rfl ?_
  refine k_iadd f215_436 ?_
  refine k_sl (k := 6 * j + 1) f215_437 (nI_add (6 * j) 1).symm (by omega) (by omega) ?_
  refine e_v (I := m1.1) (J := m1.2.1) (R := m1.2.2.1) (G := m1.2.2.2) (as := [.int (x.2 (6 * j + 1))]) (rest := [.int w]) f215_438 hz rfl rfl rfl h2 ?_
  refine k_ic_eq f215_441 (fun _ => ?_) (fun h => absurd rfl h)
  refine k_iinc (w := nI (6 * (j + 1))) (L' := [.retAddr 30, .ref 0, .ref 51, .int (nI (6 * (j + 1)))]) f215_907 rfl (nI_add (6 * j) 6) rfl rfl ?_
  refine k_goto f215_910 ?_
  exact ih m2 hI2
theorem lc_10 {Inv : Nat → zM → Prop} {x : Nat × (Nat → Int32)} {j : Nat} {m : zM} (hS : InvS Inv) (hO : Op Inv x 81 176 [.int (x.2 (6 * j + 1))]) (hj : 6 * j + 6 ≤ x.1) (hx : x.1 ≤ 3072) (hI : Inv j m) (ih : ∀ m2, Inv (j + 1) m2 → zOk x 400 215 18 [.retAddr 30, .ref 0, .ref 51, .int (nI (6 * (j + 1)))] [] m2 (fun v _ => v = some (.int 1))) : zOk x 400 215 446 [.retAddr 30, .ref 0, .ref 51, .int (nI (6 * j))] [] m (fun v _ => v = some (.int 1)) := by
  obtain ⟨w, m1, m2, h1, h2, hI2⟩ := hO j m (by omega) hI
  have hz : zo m1.2.2.2 51 11 := zo_run h1 (hS j m hI).2
  refine k_aload f215_446 rfl ?_
  refine k_aloadx f215_447 rfl (by decide) ?_
  refine k_iload f215_448 rfl ?_
  refine k_iconst (v := 1) f215_449 rfl ?_
  refine k_iadd f215_450 ?_
  refine k_sl (k := 6 * j + 1) f215_451 (nI_add (6 * j) 1).symm (by omega) (by omega) ?_
  refine e_v (I := m.1) (J := m.2.1) (R := m.2.2.1) (G := m.2.2.2) (as := [.int (x.2 (6 * j + 1))]) (rest := []) f215_452 (hS j m hI).1 rfl rfl rfl h1 ?_
  refine k_aload f215_455 rfl ?_
  refine k_aloadx f215_456 rfl (by decide) ?_
  refine k_iload f215_457 rfl ?_
  refine k_iconst (v := 1) f215_458 rfl ?_
  refine k_iadd f215_459 ?_
  refine k_sl (k := 6 * j + 1) f215_460 (nI_add (6 * j) 1).symm (by omega) (by omega) ?_
  refine e_v (I := m1.1) (J := m1.2.1) (R := m1.2.2.1) (G := m1.2.2.2) (as := [.int (x.2 (6 * j + 1))]) (rest := [.int w]) f215_461 hz rfl rfl rfl h2 ?_
  refine k_ic_eq f215_464 (fun _ => ?_) (fun h => absurd rfl h)
  refine k_iinc (w := nI (6 * (j + 1))) (L' := [.retAddr 30, .ref 0, .ref 51, .int (nI (6 * (j + 1)))]) f215_907 rfl (nI_add (6 * j) 6) rfl rfl ?_
  refine k_goto f215_910 ?_
  exact ih m2 hI2
theorem lc_11 {Inv : Nat → zM → Prop} {x : Nat × (Nat → Int32)} {j : Nat} {m : zM} (hS : InvS Inv) (hO : Op Inv x 82 179 [.int (x.2 (6 * j + 1)), .int (x.2 (6 * j + 2))]) (hj : 6 * j + 6 ≤ x.1) (hx : x.1 ≤ 3072) (hI : Inv j m) (ih : ∀ m2, Inv (j + 1) m2 → zOk x 400 215 18 [.retAddr 30, .ref 0, .ref 51, .int (nI (6 * (j + 1)))] [] m2 (fun v _ => v = some (.int 1))) : zOk x 400 215 469 [.retAddr 30, .ref 0, .ref 51, .int (nI (6 * j))] [] m (fun v _ => v = some (.int 1)) := by
  obtain ⟨w, m1, m2, h1, h2, hI2⟩ := hO j m (by omega) hI
  have hz : zo m1.2.2.2 51 11 := zo_run h1 (hS j m hI).2
  refine k_aload f215_469 rfl ?_
  refine k_aloadx f215_470 rfl (by decide) ?_
  refine k_iload f215_471 rfl ?_
  refine k_iconst (v := 1) f215_472 rfl ?_
  refine k_iadd f215_473 ?_
  refine k_sl (k := 6 * j + 1) f215_474 (nI_add (6 * j) 1).symm (by omega) (by omega) ?_
  refine k_aloadx f215_475 rfl (by decide) ?_
  refine k_iload f215_476 rfl ?_
  refine k_iconst (v := 2) f215_477 rfl ?_
  refine k_iadd f215_478 ?_
  refine k_sl (k := 6 * j + 2) f215_479 (nI_add (6 * j) 2).symm (by omega) (by omega) ?_
  refine e_v (I := m.1) (J := m.2.1) (R := m.2.2.1) (G := m.2.2.2) (as := [.int (x.2 (6 * j + 2)), .int (x.2 (6 * j + 1))]) (rest := []) f215_480 (hS j m hI).1 rfl rfl rfl h1 ?_
  refine k_aload f215_483 rfl ?_
  refine k_aloadx f215_484 rfl (by decide) ?_
  refine k_iload f215_485 rfl ?_
  refine k_iconst (v := 1) f215_486 rfl ?_
  refine k_iadd f215_487 ?_
  refine k_sl (k := 6 * j + 1) f215_488 (nI_add (6 * j) 1).symm (by omega) (by omega) ?_
  refine k_aloadx f215_489 rfl (by decide) ?_
  refine k_iload f215_490 rfl ?_
  refine k_iconst (v := 2) f215_491 rfl ?_
  refine k_iadd f215_492 ?_
  refine k_sl (k := 6 * j + 2) f215_493 (nI_add (6 * j) 2).symm (by omega) (by omega) ?_
  refine e_v (I := m1.1) (J := m1.2.1) (R := m1.2.2.1) (G := m1.2.2.2) (as := [.int (x.2 (6 * j + 2)), .int (x.2 (6 * j + 1))]) (rest := [.int w]) f215_494 hz rfl rfl rfl h2 ?_
  refine k_ic_eq f215_497 (fun _ => ?_) (fun h => absurd rfl h)
  refine k_iinc (w := nI (6 * (j + 1))) (L' := [.retAddr 30, .ref 0, .ref 51, .int (nI (6 * (j + 1)))]) f215_907 rfl (nI_add (6 * j) 6) rfl rfl ?_
  refine k_goto f215_910 ?_
  exact ih m2 hI2
theorem lc_12 {Inv : Nat → zM → Prop} {x : Nat × (Nat → Int32)} {j : Nat} {m : zM} (hS : InvS Inv) (hO : Op Inv x 83 182 [.int (x.2 (6 * j + 1)), .int (x.2 (6 * j + 2)), .int (x.2 (6 * j + 3))]) (hj : 6 * j + 6 ≤ x.1) (hx : x.1 ≤ 3072) (hI : Inv j m) (ih : ∀ m2, Inv (j + 1) m2 → zOk x 400 215 18 [.retAddr 30, .ref 0, .ref 51, .int (nI (6 * (j + 1)))] [] m2 (fun v _ => v = some (.int 1))) : zOk x 400 215 502 [.retAddr 30, .ref 0, .ref 51, .int (nI (6 * j))] [] m (fun v _ => v = some (.int 1)) := by
  obtain ⟨w, m1, m2, h1, h2, hI2⟩ := hO j m (by omega) hI
  have hz : zo m1.2.2.2 51 11 := zo_run h1 (hS j m hI).2
  refine k_aload f215_502 rfl ?_
  refine k_aloadx f215_503 rfl (by decide) ?_
  refine k_iload f215_504 rfl ?_
  refine k_iconst (v := 1) f215_505 rfl ?_
  refine k_iadd f215_506 ?_
  refine k_sl (k := 6 * j + 1) f215_507 (nI_add (6 * j) 1).symm (by omega) (by omega) ?_
  refine k_aloadx f215_508 rfl (by decide) ?_
  refine k_iload f215_509 rfl ?_
  refine k_iconst (v := 2) f215_510 rfl ?_
  refine k_iadd f215_511 ?_
  refine k_sl (k := 6 * j + 2) f215_512 (nI_add (6 * j) 2).symm (by omega) (by omega) ?_
  refine k_aloadx f215_513 rfl (by decide) ?_
  refine k_iload f215_514 rfl ?_
  refine k_iconst (v := 3) f215_515 rfl ?_
  refine k_iadd f215_516 ?_
  refine k_sl (k := 6 * j + 3) f215_517 (nI_add (6 * j) 3).symm (by omega) (by omega) ?_
  refine e_v (I := m.1) (J := m.2.1) (R := m.2.2.1) (G := m.2.2.2) (as := [.int (x.2 (6 * j + 3)), .int (x.2 (6 * j + 2)), .int (x.2 (6 * j + 1))]) (rest := []) f215_518 (hS j m hI).1 rfl rfl rfl h1 ?_
  refine k_aload f215_521 rfl ?_
  refine k_aloadx f215_522 rfl (by decide) ?_
  refine k_iload f215_523 rfl ?_
  refine k_iconst (v := 1) f215_524 rfl ?_
  refine k_iadd f215_525 ?_
  refine k_sl (k := 6 * j + 1) f215_526 (nI_add (6 * j) 1).symm (by omega) (by omega) ?_
  refine k_aloadx f215_527 rfl (by decide) ?_
  refine k_iload f215_528 rfl ?_
  refine k_iconst (v := 2) f215_529 rfl ?_
  refine k_iadd f215_530 ?_
  refine k_sl (k := 6 * j + 2) f215_531 (nI_add (6 * j) 2).symm (by omega) (by omega) ?_
  refine k_aloadx f215_532 rfl (by decide) ?_
  refine k_iload f215_533 rfl ?_
  refine k_iconst (v := 3) f215_534 rfl ?_
  refine k_iadd f215_535 ?_
  refine k_sl (k := 6 * j + 3) f215_536 (nI_add (6 * j) 3).symm (by omega) (by omega) ?_
  refine e_v (I := m1.1) (J := m1.2.1) (R := m1.2.2.1) (G := m1.2.2.2) (as := [.int (x.2 (6 * j + 3)), .int (x.2 (6 * j + 2)), .int (x.2 (6 * j + 1))]) (rest := [.int w]) f215_537 hz rfl rfl rfl h2 ?_
  refine k_ic_eq f215_540 (fun _ => ?_) (fun h => absurd rfl h)
  refine k_iinc (w := nI (6 * (j + 1))) (L' := [.retAddr 30, .ref 0, .ref 51, .int (nI (6 * (j + 1)))]) f215_907 rfl (nI_add (6 * j) 6) rfl rfl ?_
  refine k_goto f215_910 ?_
  exact ih m2 hI2
theorem lc_13 {Inv : Nat → zM → Prop} {x : Nat × (Nat → Int32)} {j : Nat} {m : zM} (hS : InvS Inv) (hO : Op Inv x 84 187 [.int (x.2 (6 * j + 1))]) (hj : 6 * j + 6 ≤ x.1) (hx : x.1 ≤ 3072) (hI : Inv j m) (ih : ∀ m2, Inv (j + 1) m2 → zOk x 400 215 18 [.retAddr 30, .ref 0, .ref 51, .int (nI (6 * (j + 1)))] [] m2 (fun v _ => v = some (.int 1))) : zOk x 400 215 545 [.retAddr 30, .ref 0, .ref 51, .int (nI (6 * j))] [] m (fun v _ => v = some (.int 1)) := by
  obtain ⟨w, m1, m2, h1, h2, hI2⟩ := hO j m (by omega) hI
  have hz : zo m1.2.2.2 51 11 := zo_run h1 (hS j m hI).2
  refine k_aload f215_545 rfl ?_
  refine k_aloadx f215_546 rfl (by decide) ?_
  refine k_iload f215_547 rfl ?_
  refine k_iconst (v := 1) f215_548 rfl ?_
  refine k_iadd f215_549 ?_
  refine k_sl (k := 6 * j + 1) f215_550 (nI_add (6 * j) 1).symm (by omega) (by omega) ?_
  refine e_v (I := m.1) (J := m.2.1) (R := m.2.2.1) (G := m.2.2.2) (as := [.int (x.2 (6 * j + 1))]) (rest := []) f215_551 (hS j m hI).1 rfl rfl rfl h1 ?_
  refine k_aload f215_554 rfl ?_
  refine k_aloadx f215_555 rfl (by decide) ?_
  refine k_iload f215_556 rfl ?_
  refine k_iconst (v := 1) f215_557 rfl ?_
  refine k_iadd f215_558 ?_
  refine k_sl (k := 6 * j + 1) f215_559 (nI_add (6 * j) 1).symm (by omega) (by omega) ?_
  refine e_v (I := m1.1) (J := m1.2.1) (R := m1.2.2.1) (G := m1.2.2.2) (as := [.int (x.2 (6 * j + 1))]) (rest := [.int w]) f215_560 hz rfl rfl rfl h2 ?_
  refine k_ic_eq f215_563 (fun _ => ?_) (fun h => absurd rfl h)
  refine k_iinc (w := nI (6 * (j + 1))) (L' := [.retAddr 30, .ref 0, .ref 51, .int (nI (6 * (j + 1)))]) f215_907 rfl (nI_add (6 * j) 6) rfl rfl ?_
  refine k_goto f215_910 ?_
  exact ih m2 hI2
theorem lc_14 {Inv : Nat → zM → Prop} {x : Nat × (Nat → Int32)} {j : Nat} {m : zM} (hS : InvS Inv) (hO : Op Inv x 85 188 [.int (x.2 (6 * j + 1))]) (hj : 6 * j + 6 ≤ x.1) (hx : x.1 ≤ 3072) (hI : Inv j m) (ih : ∀ m2, Inv (j + 1) m2 → zOk x 400 215 18 [.retAddr 30, .ref 0, .ref 51, .int (nI (6 * (j + 1)))] [] m2 (fun v _ => v = some (.int 1))) : zOk x 400 215 568 [.retAddr 30, .ref 0, .ref 51, .int (nI (6 * j))] [] m (fun v _ => v = some (.int 1)) := by
  obtain ⟨w, m1, m2, h1, h2, hI2⟩ := hO j m (by omega) hI
  have hz : zo m1.2.2.2 51 11 := zo_run h1 (hS j m hI).2
  refine k_aload f215_568 rfl ?_
  refine k_aloadx f215_569 rfl (by decide) ?_
  refine k_iload f215_570 rfl ?_
  refine k_iconst (v := 1) f215_571 rfl ?_
  refine k_iadd f215_572 ?_
  refine k_sl (k := 6 * j + 1) f215_573 (nI_add (6 * j) 1).symm (by omega) (by omega) ?_
  refine e_v (I := m.1) (J := m.2.1) (R := m.2.2.1) (G := m.2.2.2) (as := [.int (x.2 (6 * j + 1))]) (rest := []) f215_574 (hS j m hI).1 rfl rfl rfl h1 ?_
  refine k_aload f215_577 rfl ?_
  refine k_aloadx f215_578 rfl (by decide) ?_
  refine k_iload f215_579 rfl ?_
  refine k_iconst (v := 1) f215_580 rfl ?_
  refine k_iadd f215_581 ?_
  refine k_sl (k := 6 * j + 1) f215_582 (nI_add (6 * j) 1).symm (by omega) (by omega) ?_
  refine e_v (I := m1.1) (J := m1.2.1) (R := m1.2.2.1) (G := m1.2.2.2) (as := [.int (x.2 (6 * j + 1))]) (rest := [.int w]) f215_583 hz rfl rfl rfl h2 ?_
  refine k_ic_eq f215_586 (fun _ => ?_) (fun h => absurd rfl h)
  refine k_iinc (w := nI (6 * (j + 1))) (L' := [.retAddr 30, .ref 0, .ref 51, .int (nI (6 * (j + 1)))]) f215_907 rfl (nI_add (6 * j) 6) rfl rfl ?_
  refine k_goto f215_910 ?_
  exact ih m2 hI2
theorem lc_15 {Inv : Nat → zM → Prop} {x : Nat × (Nat → Int32)} {j : Nat} {m : zM} (hS : InvS Inv) (hO : Op Inv x 86 190 []) (hj : 6 * j + 6 ≤ x.1) (hx : x.1 ≤ 3072) (hI : Inv j m) (ih : ∀ m2, Inv (j + 1) m2 → zOk x 400 215 18 [.retAddr 30, .ref 0, .ref 51, .int (nI (6 * (j + 1)))] [] m2 (fun v _ => v = some (.int 1))) : zOk x 400 215 591 [.retAddr 30, .ref 0, .ref 51, .int (nI (6 * j))] [] m (fun v _ => v = some (.int 1)) := by
  obtain ⟨w, m1, m2, h1, h2, hI2⟩ := hO j m (by omega) hI
  have hz : zo m1.2.2.2 51 11 := zo_run h1 (hS j m hI).2
  refine k_aload f215_591 rfl ?_
  refine e_v (I := m.1) (J := m.2.1) (R := m.2.2.1) (G := m.2.2.2) (as := []) (rest := []) f215_592 (hS j m hI).1 rfl rfl rfl h1 ?_
  refine k_aload f215_595 rfl ?_
  refine e_v (I := m1.1) (J := m1.2.1) (R := m1.2.2.1) (G := m1.2.2.2) (as := []) (rest := [.int w]) f215_596 hz rfl rfl rfl h2 ?_
  refine k_ic_eq f215_599 (fun _ => ?_) (fun h => absurd rfl h)
  refine k_iinc (w := nI (6 * (j + 1))) (L' := [.retAddr 30, .ref 0, .ref 51, .int (nI (6 * (j + 1)))]) f215_907 rfl (nI_add (6 * j) 6) rfl rfl ?_
  refine k_goto f215_910 ?_
  exact ih m2 hI2
theorem lc_16 {Inv : Nat → zM → Prop} {x : Nat × (Nat → Int32)} {j : Nat} {m : zM} (hS : InvS Inv) (hO : Op Inv x 87 191 []) (hj : 6 * j + 6 ≤ x.1) (hx : x.1 ≤ 3072) (hI : Inv j m) (ih : ∀ m2, Inv (j + 1) m2 → zOk x 400 215 18 [.retAddr 30, .ref 0, .ref 51, .int (nI (6 * (j + 1)))] [] m2 (fun v _ => v = some (.int 1))) : zOk x 400 215 604 [.retAddr 30, .ref 0, .ref 51, .int (nI (6 * j))] [] m (fun v _ => v = some (.int 1)) := by
  obtain ⟨w, m1, m2, h1, h2, hI2⟩ := hO j m (by omega) hI
  have hz : zo m1.2.2.2 51 11 := zo_run h1 (hS j m hI).2
  refine k_aload f215_604 rfl ?_
  refine e_v (I := m.1) (J := m.2.1) (R := m.2.2.1) (G := m.2.2.2) (as := []) (rest := []) f215_605 (hS j m hI).1 rfl rfl rfl h1 ?_
  refine k_aload f215_608 rfl ?_
  refine e_v (I := m1.1) (J := m1.2.1) (R := m1.2.2.1) (G := m1.2.2.2) (as := []) (rest := [.int w]) f215_609 hz rfl rfl rfl h2 ?_
  refine k_ic_eq f215_612 (fun _ => ?_) (fun h => absurd rfl h)
  refine k_iinc (w := nI (6 * (j + 1))) (L' := [.retAddr 30, .ref 0, .ref 51, .int (nI (6 * (j + 1)))]) f215_907 rfl (nI_add (6 * j) 6) rfl rfl ?_
  refine k_goto f215_910 ?_
  exact ih m2 hI2
theorem lc_17 {Inv : Nat → zM → Prop} {x : Nat × (Nat → Int32)} {j : Nat} {m : zM} (hS : InvS Inv) (hO : Op Inv x 88 193 [.int (x.2 (6 * j + 1))]) (hj : 6 * j + 6 ≤ x.1) (hx : x.1 ≤ 3072) (hI : Inv j m) (ih : ∀ m2, Inv (j + 1) m2 → zOk x 400 215 18 [.retAddr 30, .ref 0, .ref 51, .int (nI (6 * (j + 1)))] [] m2 (fun v _ => v = some (.int 1))) : zOk x 400 215 617 [.retAddr 30, .ref 0, .ref 51, .int (nI (6 * j))] [] m (fun v _ => v = some (.int 1)) := by
  obtain ⟨w, m1, m2, h1, h2, hI2⟩ := hO j m (by omega) hI
  have hz : zo m1.2.2.2 51 11 := zo_run h1 (hS j m hI).2
  refine k_aload f215_617 rfl ?_
  refine k_aloadx f215_618 rfl (by decide) ?_
  refine k_iload f215_619 rfl ?_
  refine k_iconst (v := 1) f215_620 rfl ?_
  refine k_iadd f215_621 ?_
  refine k_sl (k := 6 * j + 1) f215_622 (nI_add (6 * j) 1).symm (by omega) (by omega) ?_
  refine e_v (I := m.1) (J := m.2.1) (R := m.2.2.1) (G := m.2.2.2) (as := [.int (x.2 (6 * j + 1))]) (rest := []) f215_623 (hS j m hI).1 rfl rfl rfl h1 ?_
  refine k_aload f215_626 rfl ?_
  refine k_aloadx f215_627 rfl (by decide) ?_
  refine k_iload f215_628 rfl ?_
  refine k_iconst (v := 1) f215_629 rfl ?_
  refine k_iadd f215_630 ?_
  refine k_sl (k := 6 * j + 1) f215_631 (nI_add (6 * j) 1).symm (by omega) (by omega) ?_
  refine e_v (I := m1.1) (J := m1.2.1) (R := m1.2.2.1) (G := m1.2.2.2) (as := [.int (x.2 (6 * j + 1))]) (rest := [.int w]) f215_632 hz rfl rfl rfl h2 ?_
  refine k_ic_eq f215_635 (fun _ => ?_) (fun h => absurd rfl h)
  refine k_iinc (w := nI (6 * (j + 1))) (L' := [.retAddr 30, .ref 0, .ref 51, .int (nI (6 * (j + 1)))]) f215_907 rfl (nI_add (6 * j) 6) rfl rfl ?_
  refine k_goto f215_910 ?_
  exact ih m2 hI2
theorem lc_18 {Inv : Nat → zM → Prop} {x : Nat × (Nat → Int32)} {j : Nat} {m : zM} (hS : InvS Inv) (hO : Op Inv x 89 194 [.int (x.2 (6 * j + 1)), .int (x.2 (6 * j + 2))]) (hj : 6 * j + 6 ≤ x.1) (hx : x.1 ≤ 3072) (hI : Inv j m) (ih : ∀ m2, Inv (j + 1) m2 → zOk x 400 215 18 [.retAddr 30, .ref 0, .ref 51, .int (nI (6 * (j + 1)))] [] m2 (fun v _ => v = some (.int 1))) : zOk x 400 215 640 [.retAddr 30, .ref 0, .ref 51, .int (nI (6 * j))] [] m (fun v _ => v = some (.int 1)) := by
  obtain ⟨w, m1, m2, h1, h2, hI2⟩ := hO j m (by omega) hI
  have hz : zo m1.2.2.2 51 11 := zo_run h1 (hS j m hI).2
  refine k_aload f215_640 rfl ?_
  refine k_aloadx f215_641 rfl (by decide) ?_
  refine k_iload f215_642 rfl ?_
  refine k_iconst (v := 1) f215_643 rfl ?_
  refine k_iadd f215_644 ?_
  refine k_sl (k := 6 * j + 1) f215_645 (nI_add (6 * j) 1).symm (by omega) (by omega) ?_
  refine k_aloadx f215_646 rfl (by decide) ?_
  refine k_iload f215_647 rfl ?_
  refine k_iconst (v := 2) f215_648 rfl ?_
  refine k_iadd f215_649 ?_
  refine k_sl (k := 6 * j + 2) f215_650 (nI_add (6 * j) 2).symm (by omega) (by omega) ?_
  refine e_v (I := m.1) (J := m.2.1) (R := m.2.2.1) (G := m.2.2.2) (as := [.int (x.2 (6 * j + 2)), .int (x.2 (6 * j + 1))]) (rest := []) f215_651 (hS j m hI).1 rfl rfl rfl h1 ?_
  refine k_aload f215_654 rfl ?_
  refine k_aloadx f215_655 rfl (by decide) ?_
  refine k_iload f215_656 rfl ?_
  refine k_iconst (v := 1) f215_657 rfl ?_
  refine k_iadd f215_658 ?_
  refine k_sl (k := 6 * j + 1) f215_659 (nI_add (6 * j) 1).symm (by omega) (by omega) ?_
  refine k_aloadx f215_660 rfl (by decide) ?_
  refine k_iload f215_661 rfl ?_
  refine k_iconst (v := 2) f215_662 rfl ?_
  refine k_iadd f215_663 ?_
  refine k_sl (k := 6 * j + 2) f215_664 (nI_add (6 * j) 2).symm (by omega) (by omega) ?_
  refine e_v (I := m1.1) (J := m1.2.1) (R := m1.2.2.1) (G := m1.2.2.2) (as := [.int (x.2 (6 * j + 2)), .int (x.2 (6 * j + 1))]) (rest := [.int w]) f215_665 hz rfl rfl rfl h2 ?_
  refine k_ic_eq f215_668 (fun _ => ?_) (fun h => absurd rfl h)
  refine k_iinc (w := nI (6 * (j + 1))) (L' := [.retAddr 30, .ref 0, .ref 51, .int (nI (6 * (j + 1)))]) f215_907 rfl (nI_add (6 * j) 6) rfl rfl ?_
  refine k_goto f215_910 ?_
  exact ih m2 hI2
theorem lc_19 {Inv : Nat → zM → Prop} {x : Nat × (Nat → Int32)} {j : Nat} {m : zM} (hS : InvS Inv) (hO : Op Inv x 90 196 [.int (x.2 (6 * j + 1)), .int (x.2 (6 * j + 2))]) (hj : 6 * j + 6 ≤ x.1) (hx : x.1 ≤ 3072) (hI : Inv j m) (ih : ∀ m2, Inv (j + 1) m2 → zOk x 400 215 18 [.retAddr 30, .ref 0, .ref 51, .int (nI (6 * (j + 1)))] [] m2 (fun v _ => v = some (.int 1))) : zOk x 400 215 673 [.retAddr 30, .ref 0, .ref 51, .int (nI (6 * j))] [] m (fun v _ => v = some (.int 1)) := by
  obtain ⟨w, m1, m2, h1, h2, hI2⟩ := hO j m (by omega) hI
  have hz : zo m1.2.2.2 51 11 := zo_run h1 (hS j m hI).2
  refine k_aload f215_673 rfl ?_
  refine k_aloadx f215_674 rfl (by decide) ?_
  refine k_iload f215_675 rfl ?_
  refine k_iconst (v := 1) f215_676 rfl ?_
  refine k_iadd f215_677 ?_
  refine k_sl (k := 6 * j + 1) f215_678 (nI_add (6 * j) 1).symm (by omega) (by omega) ?_
  refine k_aloadx f215_679 rfl (by decide) ?_
  refine k_iload f215_680 rfl ?_
  refine k_iconst (v := 2) f215_681 rfl ?_
  refine k_iadd f215_682 ?_
  refine k_sl (k := 6 * j + 2) f215_683 (nI_add (6 * j) 2).symm (by omega) (by omega) ?_
  refine e_v (I := m.1) (J := m.2.1) (R := m.2.2.1) (G := m.2.2.2) (as := [.int (x.2 (6 * j + 2)), .int (x.2 (6 * j + 1))]) (rest := []) f215_684 (hS j m hI).1 rfl rfl rfl h1 ?_
  refine k_aload f215_687 rfl ?_
  refine k_aloadx f215_688 rfl (by decide) ?_
  refine k_iload f215_689 rfl ?_
  refine k_iconst (v := 1) f215_690 rfl ?_
  refine k_iadd f215_691 ?_
  refine k_sl (k := 6 * j + 1) f215_692 (nI_add (6 * j) 1).symm (by omega) (by omega) ?_
  refine k_aloadx f215_693 rfl (by decide) ?_
  refine k_iload f215_694 rfl ?_
  refine k_iconst (v := 2) f215_695 rfl ?_
  refine k_iadd f215_696 ?_
  refine k_sl (k := 6 * j + 2) f215_697 (nI_add (6 * j) 2).symm (by omega) (by omega) ?_
  refine e_v (I := m1.1) (J := m1.2.1) (R := m1.2.2.1) (G := m1.2.2.2) (as := [.int (x.2 (6 * j + 2)), .int (x.2 (6 * j + 1))]) (rest := [.int w]) f215_698 hz rfl rfl rfl h2 ?_
  refine k_ic_eq f215_701 (fun _ => ?_) (fun h => absurd rfl h)
  refine k_iinc (w := nI (6 * (j + 1))) (L' := [.retAddr 30, .ref 0, .ref 51, .int (nI (6 * (j + 1)))]) f215_907 rfl (nI_add (6 * j) 6) rfl rfl ?_
  refine k_goto f215_910 ?_
  exact ih m2 hI2
theorem lc_20 {Inv : Nat → zM → Prop} {x : Nat × (Nat → Int32)} {j : Nat} {m : zM} (hS : InvS Inv) (hO : Op Inv x 91 197 [.int (x.2 (6 * j + 1)), .int (x.2 (6 * j + 2))]) (hj : 6 * j + 6 ≤ x.1) (hx : x.1 ≤ 3072) (hI : Inv j m) (ih : ∀ m2, Inv (j + 1) m2 → zOk x 400 215 18 [.retAddr 30, .ref 0, .ref 51, .int (nI (6 * (j + 1)))] [] m2 (fun v _ => v = some (.int 1))) : zOk x 400 215 706 [.retAddr 30, .ref 0, .ref 51, .int (nI (6 * j))] [] m (fun v _ => v = some (.int 1)) := by
  obtain ⟨w, m1, m2, h1, h2, hI2⟩ := hO j m (by omega) hI
  have hz : zo m1.2.2.2 51 11 := zo_run h1 (hS j m hI).2
  refine k_aload f215_706 rfl ?_
  refine k_aloadx f215_707 rfl (by decide) ?_
  refine k_iload f215_708 rfl ?_
  refine k_iconst (v := 1) f215_709 rfl ?_
  refine k_iadd f215_710 ?_
  refine k_sl (k := 6 * j + 1) f215_711 (nI_add (6 * j) 1).symm (by omega) (by omega) ?_
  refine k_aloadx f215_712 rfl (by decide) ?_
  refine k_iload f215_713 rfl ?_
  refine k_iconst (v := 2) f215_714 rfl ?_
  refine k_iadd f215_715 ?_
  refine k_sl (k := 6 * j + 2) f215_716 (nI_add (6 * j) 2).symm (by omega) (by omega) ?_
  refine e_v (I := m.1) (J := m.2.1) (R := m.2.2.1) (G := m.2.2.2) (as := [.int (x.2 (6 * j + 2)), .int (x.2 (6 * j + 1))]) (rest := []) f215_717 (hS j m hI).1 rfl rfl rfl h1 ?_
  refine k_aload f215_720 rfl ?_
  refine k_aloadx f215_721 rfl (by decide) ?_
  refine k_iload f215_722 rfl ?_
  refine k_iconst (v := 1) f215_723 rfl ?_
  refine k_iadd f215_724 ?_
  refine k_sl (k := 6 * j + 1) f215_725 (nI_add (6 * j) 1).symm (by omega) (by omega) ?_
  refine k_aloadx f215_726 rfl (by decide) ?_
  refine k_iload f215_727 rfl ?_
  refine k_iconst (v := 2) f215_728 rfl ?_
  refine k_iadd f215_729 ?_
  refine k_sl (k := 6 * j + 2) f215_730 (nI_add (6 * j) 2).symm (by omega) (by omega) ?_
  refine e_v (I := m1.1) (J := m1.2.1) (R := m1.2.2.1) (G := m1.2.2.2) (as := [.int (x.2 (6 * j + 2)), .int (x.2 (6 * j + 1))]) (rest := [.int w]) f215_731 hz rfl rfl rfl h2 ?_
  refine k_ic_eq f215_734 (fun _ => ?_) (fun h => absurd rfl h)
  refine k_iinc (w := nI (6 * (j + 1))) (L' := [.retAddr 30, .ref 0, .ref 51, .int (nI (6 * (j + 1)))]) f215_907 rfl (nI_add (6 * j) 6) rfl rfl ?_
  refine k_goto f215_910 ?_
  exact ih m2 hI2
theorem lc_21 {Inv : Nat → zM → Prop} {x : Nat × (Nat → Int32)} {j : Nat} {m : zM} (hS : InvS Inv) (hO : Op Inv x 92 199 [.int (x.2 (6 * j + 1))]) (hj : 6 * j + 6 ≤ x.1) (hx : x.1 ≤ 3072) (hI : Inv j m) (ih : ∀ m2, Inv (j + 1) m2 → zOk x 400 215 18 [.retAddr 30, .ref 0, .ref 51, .int (nI (6 * (j + 1)))] [] m2 (fun v _ => v = some (.int 1))) : zOk x 400 215 739 [.retAddr 30, .ref 0, .ref 51, .int (nI (6 * j))] [] m (fun v _ => v = some (.int 1)) := by
  obtain ⟨w, m1, m2, h1, h2, hI2⟩ := hO j m (by omega) hI
  have hz : zo m1.2.2.2 51 11 := zo_run h1 (hS j m hI).2
  refine k_aload f215_739 rfl ?_
  refine k_aloadx f215_740 rfl (by decide) ?_
  refine k_iload f215_741 rfl ?_
  refine k_iconst (v := 1) f215_742 rfl ?_
  refine k_iadd f215_743 ?_
  refine k_sl (k := 6 * j + 1) f215_744 (nI_add (6 * j) 1).symm (by omega) (by omega) ?_
  refine e_v (I := m.1) (J := m.2.1) (R := m.2.2.1) (G := m.2.2.2) (as := [.int (x.2 (6 * j + 1))]) (rest := []) f215_745 (hS j m hI).1 rfl rfl rfl h1 ?_
  refine k_aload f215_748 rfl ?_
  refine k_aloadx f215_749 rfl (by decide) ?_
  refine k_iload f215_750 rfl ?_
  refine k_iconst (v := 1) f215_751 rfl ?_
  refine k_iadd f215_752 ?_
  refine k_sl (k := 6 * j + 1) f215_753 (nI_add (6 * j) 1).symm (by omega) (by omega) ?_
  refine e_v (I := m1.1) (J := m1.2.1) (R := m1.2.2.1) (G := m1.2.2.2) (as := [.int (x.2 (6 * j + 1))]) (rest := [.int w]) f215_754 hz rfl rfl rfl h2 ?_
  refine k_ic_eq f215_757 (fun _ => ?_) (fun h => absurd rfl h)
  refine k_iinc (w := nI (6 * (j + 1))) (L' := [.retAddr 30, .ref 0, .ref 51, .int (nI (6 * (j + 1)))]) f215_907 rfl (nI_add (6 * j) 6) rfl rfl ?_
  refine k_goto f215_910 ?_
  exact ih m2 hI2
theorem lc_22 {Inv : Nat → zM → Prop} {x : Nat × (Nat → Int32)} {j : Nat} {m : zM} (hS : InvS Inv) (hO : Op Inv x 93 200 [.int (x.2 (6 * j + 1))]) (hj : 6 * j + 6 ≤ x.1) (hx : x.1 ≤ 3072) (hI : Inv j m) (ih : ∀ m2, Inv (j + 1) m2 → zOk x 400 215 18 [.retAddr 30, .ref 0, .ref 51, .int (nI (6 * (j + 1)))] [] m2 (fun v _ => v = some (.int 1))) : zOk x 400 215 762 [.retAddr 30, .ref 0, .ref 51, .int (nI (6 * j))] [] m (fun v _ => v = some (.int 1)) := by
  obtain ⟨w, m1, m2, h1, h2, hI2⟩ := hO j m (by omega) hI
  have hz : zo m1.2.2.2 51 11 := zo_run h1 (hS j m hI).2
  refine k_aload f215_762 rfl ?_
  refine k_aloadx f215_763 rfl (by decide) ?_
  refine k_iload f215_764 rfl ?_
  refine k_iconst (v := 1) f215_765 rfl ?_
  refine k_iadd f215_766 ?_
  refine k_sl (k := 6 * j + 1) f215_767 (nI_add (6 * j) 1).symm (by omega) (by omega) ?_
  refine e_v (I := m.1) (J := m.2.1) (R := m.2.2.1) (G := m.2.2.2) (as := [.int (x.2 (6 * j + 1))]) (rest := []) f215_768 (hS j m hI).1 rfl rfl rfl h1 ?_
  refine k_aload f215_771 rfl ?_
  refine k_aloadx f215_772 rfl (by decide) ?_
  refine k_iload f215_773 rfl ?_
  refine k_iconst (v := 1) f215_774 rfl ?_
  refine k_iadd f215_775 ?_
  refine k_sl (k := 6 * j + 1) f215_776 (nI_add (6 * j) 1).symm (by omega) (by omega) ?_
  refine e_v (I := m1.1) (J := m1.2.1) (R := m1.2.2.1) (G := m1.2.2.2) (as := [.int (x.2 (6 * j + 1))]) (rest := [.int w]) f215_777 hz rfl rfl rfl h2 ?_
  refine k_ic_eq f215_780 (fun _ => ?_) (fun h => absurd rfl h)
  refine k_iinc (w := nI (6 * (j + 1))) (L' := [.retAddr 30, .ref 0, .ref 51, .int (nI (6 * (j + 1)))]) f215_907 rfl (nI_add (6 * j) 6) rfl rfl ?_
  refine k_goto f215_910 ?_
  exact ih m2 hI2
theorem lc_23 {Inv : Nat → zM → Prop} {x : Nat × (Nat → Int32)} {j : Nat} {m : zM} (hS : InvS Inv) (hO : Op Inv x 94 201 [.int (x.2 (6 * j + 1)), .int (x.2 (6 * j + 2)), .int (x.2 (6 * j + 3)), .int (x.2 (6 * j + 4))]) (hj : 6 * j + 6 ≤ x.1) (hx : x.1 ≤ 3072) (hI : Inv j m) (ih : ∀ m2, Inv (j + 1) m2 → zOk x 400 215 18 [.retAddr 30, .ref 0, .ref 51, .int (nI (6 * (j + 1)))] [] m2 (fun v _ => v = some (.int 1))) : zOk x 400 215 785 [.retAddr 30, .ref 0, .ref 51, .int (nI (6 * j))] [] m (fun v _ => v = some (.int 1)) := by
  obtain ⟨w, m1, m2, h1, h2, hI2⟩ := hO j m (by omega) hI
  have hz : zo m1.2.2.2 51 11 := zo_run h1 (hS j m hI).2
  refine k_aload f215_785 rfl ?_
  refine k_aloadx f215_786 rfl (by decide) ?_
  refine k_iload f215_787 rfl ?_
  refine k_iconst (v := 1) f215_788 rfl ?_
  refine k_iadd f215_789 ?_
  refine k_sl (k := 6 * j + 1) f215_790 (nI_add (6 * j) 1).symm (by omega) (by omega) ?_
  refine k_aloadx f215_791 rfl (by decide) ?_
  refine k_iload f215_792 rfl ?_
  refine k_iconst (v := 2) f215_793 rfl ?_
  refine k_iadd f215_794 ?_
  refine k_sl (k := 6 * j + 2) f215_795 (nI_add (6 * j) 2).symm (by omega) (by omega) ?_
  refine k_aloadx f215_796 rfl (by decide) ?_
  refine k_iload f215_797 rfl ?_
  refine k_iconst (v := 3) f215_798 rfl ?_
  refine k_iadd f215_799 ?_
  refine k_sl (k := 6 * j + 3) f215_800 (nI_add (6 * j) 3).symm (by omega) (by omega) ?_
  refine k_aloadx f215_801 rfl (by decide) ?_
  refine k_iload f215_802 rfl ?_
  refine k_iconst (v := 4) f215_803 rfl ?_
  refine k_iadd f215_804 ?_
  refine k_sl (k := 6 * j + 4) f215_805 (nI_add (6 * j) 4).symm (by omega) (by omega) ?_
  refine e_v (I := m.1) (J := m.2.1) (R := m.2.2.1) (G := m.2.2.2) (as := [.int (x.2 (6 * j + 4)), .int (x.2 (6 * j + 3)), .int (x.2 (6 * j + 2)), .int (x.2 (6 * j + 1))]) (rest := []) f215_806 (hS j m hI).1 rfl rfl rfl h1 ?_
  refine k_aload f215_809 rfl ?_
  refine k_aloadx f215_810 rfl (by decide) ?_
  refine k_iload f215_811 rfl ?_
  refine k_iconst (v := 1) f215_812 rfl ?_
  refine k_iadd f215_813 ?_
  refine k_sl (k := 6 * j + 1) f215_814 (nI_add (6 * j) 1).symm (by omega) (by omega) ?_
  refine k_aloadx f215_815 rfl (by decide) ?_
  refine k_iload f215_816 rfl ?_
  refine k_iconst (v := 2) f215_817 rfl ?_
  refine k_iadd f215_818 ?_
  refine k_sl (k := 6 * j + 2) f215_819 (nI_add (6 * j) 2).symm (by omega) (by omega) ?_
  refine k_aloadx f215_820 rfl (by decide) ?_
  refine k_iload f215_821 rfl ?_
  refine k_iconst (v := 3) f215_822 rfl ?_
  refine k_iadd f215_823 ?_
  refine k_sl (k := 6 * j + 3) f215_824 (nI_add (6 * j) 3).symm (by omega) (by omega) ?_
  refine k_aloadx f215_825 rfl (by decide) ?_
  refine k_iload f215_826 rfl ?_
  refine k_iconst (v := 4) f215_827 rfl ?_
  refine k_iadd f215_828 ?_
  refine k_sl (k := 6 * j + 4) f215_829 (nI_add (6 * j) 4).symm (by omega) (by omega) ?_
  refine e_v (I := m1.1) (J := m1.2.1) (R := m1.2.2.1) (G := m1.2.2.2) (as := [.int (x.2 (6 * j + 4)), .int (x.2 (6 * j + 3)), .int (x.2 (6 * j + 2)), .int (x.2 (6 * j + 1))]) (rest := [.int w]) f215_830 hz rfl rfl rfl h2 ?_
  refine k_ic_eq f215_833 (fun _ => ?_) (fun h => absurd rfl h)
  refine k_iinc (w := nI (6 * (j + 1))) (L' := [.retAddr 30, .ref 0, .ref 51, .int (nI (6 * (j + 1)))]) f215_907 rfl (nI_add (6 * j) 6) rfl rfl ?_
  refine k_goto f215_910 ?_
  exact ih m2 hI2
theorem lc_24 {Inv : Nat → zM → Prop} {x : Nat × (Nat → Int32)} {j : Nat} {m : zM} (hS : InvS Inv) (hO : Op Inv x 95 202 [.int (x.2 (6 * j + 1))]) (hj : 6 * j + 6 ≤ x.1) (hx : x.1 ≤ 3072) (hI : Inv j m) (ih : ∀ m2, Inv (j + 1) m2 → zOk x 400 215 18 [.retAddr 30, .ref 0, .ref 51, .int (nI (6 * (j + 1)))] [] m2 (fun v _ => v = some (.int 1))) : zOk x 400 215 838 [.retAddr 30, .ref 0, .ref 51, .int (nI (6 * j))] [] m (fun v _ => v = some (.int 1)) := by
  obtain ⟨w, m1, m2, h1, h2, hI2⟩ := hO j m (by omega) hI
  have hz : zo m1.2.2.2 51 11 := zo_run h1 (hS j m hI).2
  refine k_aload f215_838 rfl ?_
  refine k_aloadx f215_839 rfl (by decide) ?_
  refine k_iload f215_840 rfl ?_
  refine k_iconst (v := 1) f215_841 rfl ?_
  refine k_iadd f215_842 ?_
  refine k_sl (k := 6 * j + 1) f215_843 (nI_add (6 * j) 1).symm (by omega) (by omega) ?_
  refine e_v (I := m.1) (J := m.2.1) (R := m.2.2.1) (G := m.2.2.2) (as := [.int (x.2 (6 * j + 1))]) (rest := []) f215_844 (hS j m hI).1 rfl rfl rfl h1 ?_
  refine k_aload f215_847 rfl ?_
  refine k_aloadx f215_848 rfl (by decide) ?_
  refine k_iload f215_849 rfl ?_
  refine k_iconst (v := 1) f215_850 rfl ?_
  refine k_iadd f215_851 ?_
  refine k_sl (k := 6 * j + 1) f215_852 (nI_add (6 * j) 1).symm (by omega) (by omega) ?_
  refine e_v (I := m1.1) (J := m1.2.1) (R := m1.2.2.1) (G := m1.2.2.2) (as := [.int (x.2 (6 * j + 1))]) (rest := [.int w]) f215_853 hz rfl rfl rfl h2 ?_
  refine k_ic_eq f215_856 (fun _ => ?_) (fun h => absurd rfl h)
  refine k_iinc (w := nI (6 * (j + 1))) (L' := [.retAddr 30, .ref 0, .ref 51, .int (nI (6 * (j + 1)))]) f215_907 rfl (nI_add (6 * j) 6) rfl rfl ?_
  refine k_goto f215_910 ?_
  exact ih m2 hI2
theorem lc_25 {Inv : Nat → zM → Prop} {x : Nat × (Nat → Int32)} {j : Nat} {m : zM} (hS : InvS Inv) (hO : Op Inv x 96 203 [.int (x.2 (6 * j + 1))]) (hj : 6 * j + 6 ≤ x.1) (hx : x.1 ≤ 3072) (hI : Inv j m) (ih : ∀ m2, Inv (j + 1) m2 → zOk x 400 215 18 [.retAddr 30, .ref 0, .ref 51, .int (nI (6 * (j + 1)))] [] m2 (fun v _ => v = some (.int 1))) : zOk x 400 215 861 [.retAddr 30, .ref 0, .ref 51, .int (nI (6 * j))] [] m (fun v _ => v = some (.int 1)) := by
  obtain ⟨w, m1, m2, h1, h2, hI2⟩ := hO j m (by omega) hI
  have hz : zo m1.2.2.2 51 11 := zo_run h1 (hS j m hI).2
  refine k_aload f215_861 rfl ?_
  refine k_aloadx f215_862 rfl (by decide) ?_
  refine k_iload f215_863 rfl ?_
  refine k_iconst (v := 1) f215_864 rfl ?_
  refine k_iadd f215_865 ?_
  refine k_sl (k := 6 * j + 1) f215_866 (nI_add (6 * j) 1).symm (by omega) (by omega) ?_
  refine e_v (I := m.1) (J := m.2.1) (R := m.2.2.1) (G := m.2.2.2) (as := [.int (x.2 (6 * j + 1))]) (rest := []) f215_867 (hS j m hI).1 rfl rfl rfl h1 ?_
  refine k_aload f215_870 rfl ?_
  refine k_aloadx f215_871 rfl (by decide) ?_
  refine k_iload f215_872 rfl ?_
  refine k_iconst (v := 1) f215_873 rfl ?_
  refine k_iadd f215_874 ?_
  refine k_sl (k := 6 * j + 1) f215_875 (nI_add (6 * j) 1).symm (by omega) (by omega) ?_
  refine e_v (I := m1.1) (J := m1.2.1) (R := m1.2.2.1) (G := m1.2.2.2) (as := [.int (x.2 (6 * j + 1))]) (rest := [.int w]) f215_876 hz rfl rfl rfl h2 ?_
  refine k_ic_eq f215_879 (fun _ => ?_) (fun h => absurd rfl h)
  refine k_iinc (w := nI (6 * (j + 1))) (L' := [.retAddr 30, .ref 0, .ref 51, .int (nI (6 * (j + 1)))]) f215_907 rfl (nI_add (6 * j) 6) rfl rfl ?_
  refine k_goto f215_910 ?_
  exact ih m2 hI2
theorem lc_26 {Inv : Nat → zM → Prop} {x : Nat × (Nat → Int32)} {j : Nat} {m : zM} (hS : InvS Inv) (hO : Op Inv x 97 204 [.int (x.2 (6 * j + 1))]) (hj : 6 * j + 6 ≤ x.1) (hx : x.1 ≤ 3072) (hI : Inv j m) (ih : ∀ m2, Inv (j + 1) m2 → zOk x 400 215 18 [.retAddr 30, .ref 0, .ref 51, .int (nI (6 * (j + 1)))] [] m2 (fun v _ => v = some (.int 1))) : zOk x 400 215 884 [.retAddr 30, .ref 0, .ref 51, .int (nI (6 * j))] [] m (fun v _ => v = some (.int 1)) := by
  obtain ⟨w, m1, m2, h1, h2, hI2⟩ := hO j m (by omega) hI
  have hz : zo m1.2.2.2 51 11 := zo_run h1 (hS j m hI).2
  refine k_aload f215_884 rfl ?_
  refine k_aloadx f215_885 rfl (by decide) ?_
  refine k_iload f215_886 rfl ?_
  refine k_iconst (v := 1) f215_887 rfl ?_
  refine k_iadd f215_888 ?_
  refine k_sl (k := 6 * j + 1) f215_889 (nI_add (6 * j) 1).symm (by omega) (by omega) ?_
  refine e_v (I := m.1) (J := m.2.1) (R := m.2.2.1) (G := m.2.2.2) (as := [.int (x.2 (6 * j + 1))]) (rest := []) f215_890 (hS j m hI).1 rfl rfl rfl h1 ?_
  refine k_aload f215_893 rfl ?_
  refine k_aloadx f215_894 rfl (by decide) ?_
  refine k_iload f215_895 rfl ?_
  refine k_iconst (v := 1) f215_896 rfl ?_
  refine k_iadd f215_897 ?_
  refine k_sl (k := 6 * j + 1) f215_898 (nI_add (6 * j) 1).symm (by omega) (by omega) ?_
  refine e_v (I := m1.1) (J := m1.2.1) (R := m1.2.2.1) (G := m1.2.2.2) (as := [.int (x.2 (6 * j + 1))]) (rest := [.int w]) f215_899 hz rfl rfl rfl h2 ?_
  refine k_ic_eq f215_902 (fun _ => ?_) (fun h => absurd rfl h)
  refine k_iinc (w := nI (6 * (j + 1))) (L' := [.retAddr 30, .ref 0, .ref 51, .int (nI (6 * (j + 1)))]) f215_907 rfl (nI_add (6 * j) 6) rfl rfl ?_
  refine k_goto f215_910 ?_
  exact ih m2 hI2
set_option maxHeartbeats 4000000 in
theorem p_loop {Inv : Nat → zM → Prop} {x : Nat × (Nat → Int32)} (hx : x.1 ≤ 3072) (hS : InvS Inv) (h0 : ∀ a0 a1 a2 a3 a4 : Int32, Op Inv x 71 114 [.int a0, .int a1, .int a2, .int a3, .int a4]) (h1 : ∀ a0 : Int32, Op Inv x 72 115 [.int a0]) (h2 : Op Inv x 73 147 []) (h3 : Op Inv x 74 146 []) (h4 : ∀ a0 : Int32, Op Inv x 75 161 [.int a0]) (h5 : ∀ a0 a1 : Int32, Op Inv x 76 162 [.int a0, .int a1]) (h6 : ∀ a0 a1 : Int32, Op Inv x 77 163 [.int a0, .int a1]) (h7 : ∀ a0 a1 : Int32, Op Inv x 78 164 [.int a0, .int a1]) (h8 : ∀ a0 a1 : Int32, Op Inv x 79 174 [.int a0, .int a1]) (h9 : ∀ a0 : Int32, Op Inv x 80 175 [.int a0]) (h10 : ∀ a0 : Int32, Op Inv x 81 176 [.int a0]) (h11 : ∀ a0 a1 : Int32, Op Inv x 82 179 [.int a0, .int a1]) (h12 : ∀ a0 a1 a2 : Int32, Op Inv x 83 182 [.int a0, .int a1, .int a2]) (h13 : ∀ a0 : Int32, Op Inv x 84 187 [.int a0]) (h14 : ∀ a0 : Int32, Op Inv x 85 188 [.int a0]) (h15 : Op Inv x 86 190 []) (h16 : Op Inv x 87 191 []) (h17 : ∀ a0 : Int32, Op Inv x 88 193 [.int a0]) (h18 : ∀ a0 a1 : Int32, Op Inv x 89 194 [.int a0, .int a1]) (h19 : ∀ a0 a1 : Int32, Op Inv x 90 196 [.int a0, .int a1]) (h20 : ∀ a0 a1 : Int32, Op Inv x 91 197 [.int a0, .int a1]) (h21 : ∀ a0 : Int32, Op Inv x 92 199 [.int a0]) (h22 : ∀ a0 : Int32, Op Inv x 93 200 [.int a0]) (h23 : ∀ a0 a1 a2 a3 : Int32, Op Inv x 94 201 [.int a0, .int a1, .int a2, .int a3]) (h24 : ∀ a0 : Int32, Op Inv x 95 202 [.int a0]) (h25 : ∀ a0 : Int32, Op Inv x 96 203 [.int a0]) (h26 : ∀ a0 : Int32, Op Inv x 97 204 [.int a0]) (hskip : ∀ j m, Inv j m → Inv (j + 1) m) :
    ∀ (f j : Nat) (m : zM), j ≤ 600 → x.1 < 6 * j + f → Inv j m → zOk x 400 215 18 [.retAddr 30, .ref 0, .ref 51, .int (nI (6 * j))] [] m (fun v _ => v = some (.int 1)) := by
  intro f
  induction f with
  | zero =>
    intro j m hj6 hf hI
    have hj : x.1 < 6 * j := by omega
    refine k_iload f215_18 rfl ?_
    refine k_aloadx f215_19 rfl (by decide) ?_
    refine k_slen (v := nI x.1) f215_20 rfl ?_
    refine k_iconst (v := 6) f215_21 rfl ?_
    refine k_isub f215_23 ?_
    refine k_ic_gt f215_24 (fun _ => ?_) (fun h => ?_)
    · refine k_iconst (v := 1) f215_913 rfl ?_
      exact k_iret f215_914 (by decide) rfl
    · exact absurd (law_gt hx (by omega) (by omega)) h
  | succ f ihf =>
    intro j m hj6 hf hI
    refine k_iload f215_18 rfl ?_
    refine k_aloadx f215_19 rfl (by decide) ?_
    refine k_slen (v := nI x.1) f215_20 rfl ?_
    refine k_iconst (v := 6) f215_21 rfl ?_
    refine k_isub f215_23 ?_
    refine k_ic_gt f215_24 (fun _ => ?_) (fun h => ?_)
    · refine k_iconst (v := 1) f215_913 rfl ?_
      exact k_iret f215_914 (by decide) rfl
    have hj2 : 6 * j + 6 ≤ x.1 := by
      by_cases z : 6 * j + 6 ≤ x.1
      · exact z
      · exact absurd (law_gt hx (by omega) (by omega)) h
    have ih : ∀ m2, Inv (j + 1) m2 → zOk x 400 215 18 [.retAddr 30, .ref 0, .ref 51, .int (nI (6 * (j + 1)))] [] m2 (fun v _ => v = some (.int 1)) := fun m2 h2 => ihf (j + 1) m2 (by omega) (by omega) h2
    refine k_aloadx f215_27 rfl (by decide) ?_
    refine k_iload f215_28 rfl ?_
    refine k_sl (k := 6 * j) f215_29 rfl (by omega) (by omega) ?_
    refine k_iconst (v := 31) f215_30 rfl ?_
    refine k_iand f215_32 ?_
    obtain ⟨t, ht5, ht⟩ := pk_andE (x.2 (6 * j)) (m := 31) 5 (by decide)
    have ht5 : t < 32 := ht5
    by_cases h27 : t < 27
    · match t, h27 with
      | 0, _ =>
        refine k_tsin (t := 156) f215_33 (by rw [ht]; decide) (by rw [ht]; decide) (by rw [ht]; rfl) rfl ?_
        exact lc_0 hS (h0 _ _ _ _ _) hj2 hx hI ih
      | 1, _ =>
        refine k_tsin (t := 219) f215_33 (by rw [ht]; decide) (by rw [ht]; decide) (by rw [ht]; rfl) rfl ?_
        exact lc_1 hS (h1 _) hj2 hx hI ih
      | 2, _ =>
        refine k_tsin (t := 242) f215_33 (by rw [ht]; decide) (by rw [ht]; decide) (by rw [ht]; rfl) rfl ?_
        exact lc_2 hS (h2) hj2 hx hI ih
      | 3, _ =>
        refine k_tsin (t := 255) f215_33 (by rw [ht]; decide) (by rw [ht]; decide) (by rw [ht]; rfl) rfl ?_
        exact lc_3 hS (h3) hj2 hx hI ih
      | 4, _ =>
        refine k_tsin (t := 268) f215_33 (by rw [ht]; decide) (by rw [ht]; decide) (by rw [ht]; rfl) rfl ?_
        exact lc_4 hS (h4 _) hj2 hx hI ih
      | 5, _ =>
        refine k_tsin (t := 291) f215_33 (by rw [ht]; decide) (by rw [ht]; decide) (by rw [ht]; rfl) rfl ?_
        exact lc_5 hS (h5 _ _) hj2 hx hI ih
      | 6, _ =>
        refine k_tsin (t := 324) f215_33 (by rw [ht]; decide) (by rw [ht]; decide) (by rw [ht]; rfl) rfl ?_
        exact lc_6 hS (h6 _ _) hj2 hx hI ih
      | 7, _ =>
        refine k_tsin (t := 357) f215_33 (by rw [ht]; decide) (by rw [ht]; decide) (by rw [ht]; rfl) rfl ?_
        exact lc_7 hS (h7 _ _) hj2 hx hI ih
      | 8, _ =>
        refine k_tsin (t := 390) f215_33 (by rw [ht]; decide) (by rw [ht]; decide) (by rw [ht]; rfl) rfl ?_
        exact lc_8 hS (h8 _ _) hj2 hx hI ih
      | 9, _ =>
        refine k_tsin (t := 423) f215_33 (by rw [ht]; decide) (by rw [ht]; decide) (by rw [ht]; rfl) rfl ?_
        exact lc_9 hS (h9 _) hj2 hx hI ih
      | 10, _ =>
        refine k_tsin (t := 446) f215_33 (by rw [ht]; decide) (by rw [ht]; decide) (by rw [ht]; rfl) rfl ?_
        exact lc_10 hS (h10 _) hj2 hx hI ih
      | 11, _ =>
        refine k_tsin (t := 469) f215_33 (by rw [ht]; decide) (by rw [ht]; decide) (by rw [ht]; rfl) rfl ?_
        exact lc_11 hS (h11 _ _) hj2 hx hI ih
      | 12, _ =>
        refine k_tsin (t := 502) f215_33 (by rw [ht]; decide) (by rw [ht]; decide) (by rw [ht]; rfl) rfl ?_
        exact lc_12 hS (h12 _ _ _) hj2 hx hI ih
      | 13, _ =>
        refine k_tsin (t := 545) f215_33 (by rw [ht]; decide) (by rw [ht]; decide) (by rw [ht]; rfl) rfl ?_
        exact lc_13 hS (h13 _) hj2 hx hI ih
      | 14, _ =>
        refine k_tsin (t := 568) f215_33 (by rw [ht]; decide) (by rw [ht]; decide) (by rw [ht]; rfl) rfl ?_
        exact lc_14 hS (h14 _) hj2 hx hI ih
      | 15, _ =>
        refine k_tsin (t := 591) f215_33 (by rw [ht]; decide) (by rw [ht]; decide) (by rw [ht]; rfl) rfl ?_
        exact lc_15 hS (h15) hj2 hx hI ih
      | 16, _ =>
        refine k_tsin (t := 604) f215_33 (by rw [ht]; decide) (by rw [ht]; decide) (by rw [ht]; rfl) rfl ?_
        exact lc_16 hS (h16) hj2 hx hI ih
      | 17, _ =>
        refine k_tsin (t := 617) f215_33 (by rw [ht]; decide) (by rw [ht]; decide) (by rw [ht]; rfl) rfl ?_
        exact lc_17 hS (h17 _) hj2 hx hI ih
      | 18, _ =>
        refine k_tsin (t := 640) f215_33 (by rw [ht]; decide) (by rw [ht]; decide) (by rw [ht]; rfl) rfl ?_
        exact lc_18 hS (h18 _ _) hj2 hx hI ih
      | 19, _ =>
        refine k_tsin (t := 673) f215_33 (by rw [ht]; decide) (by rw [ht]; decide) (by rw [ht]; rfl) rfl ?_
        exact lc_19 hS (h19 _ _) hj2 hx hI ih
      | 20, _ =>
        refine k_tsin (t := 706) f215_33 (by rw [ht]; decide) (by rw [ht]; decide) (by rw [ht]; rfl) rfl ?_
        exact lc_20 hS (h20 _ _) hj2 hx hI ih
      | 21, _ =>
        refine k_tsin (t := 739) f215_33 (by rw [ht]; decide) (by rw [ht]; decide) (by rw [ht]; rfl) rfl ?_
        exact lc_21 hS (h21 _) hj2 hx hI ih
      | 22, _ =>
        refine k_tsin (t := 762) f215_33 (by rw [ht]; decide) (by rw [ht]; decide) (by rw [ht]; rfl) rfl ?_
        exact lc_22 hS (h22 _) hj2 hx hI ih
      | 23, _ =>
        refine k_tsin (t := 785) f215_33 (by rw [ht]; decide) (by rw [ht]; decide) (by rw [ht]; rfl) rfl ?_
        exact lc_23 hS (h23 _ _ _ _) hj2 hx hI ih
      | 24, _ =>
        refine k_tsin (t := 838) f215_33 (by rw [ht]; decide) (by rw [ht]; decide) (by rw [ht]; rfl) rfl ?_
        exact lc_24 hS (h24 _) hj2 hx hI ih
      | 25, _ =>
        refine k_tsin (t := 861) f215_33 (by rw [ht]; decide) (by rw [ht]; decide) (by rw [ht]; rfl) rfl ?_
        exact lc_25 hS (h25 _) hj2 hx hI ih
      | 26, _ =>
        refine k_tsin (t := 884) f215_33 (by rw [ht]; decide) (by rw [ht]; decide) (by rw [ht]; rfl) rfl ?_
        exact lc_26 hS (h26 _) hj2 hx hI ih
      | n + 27, h => exact absurd h (by omega)
    · refine k_tsout f215_33 (Or.inr ?_) ?_
      · rw [ht, nI_toInt (by omega)]
        omega
      · refine k_iinc (w := nI (6 * (j + 1))) (L' := [.retAddr 30, .ref 0, .ref 51, .int (nI (6 * (j + 1)))]) f215_907 rfl (nI_add (6 * j) 6) rfl rfl ?_
        refine k_goto f215_910 ?_
        exact ih m (hskip j m hI)
