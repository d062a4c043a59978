/-! RINGS: the reference's search, ring by ring. -/
def rF (g : Nat → Nat) (st l a seen : Nat) : Nat → Nat → Nat := fun q t => if (g a).testBit q = true ∧ ¬ seen.testBit q = true then t + rnd g st l q (seen ||| 2 ^ q) else t
theorem rF_add {g : Nat → Nat} {st l a seen : Nat} : ∀ (f i t : Nat), foL (rF g st l a seen) i f t = t + foL (rF g st l a seen) i f 0 := by
  intro f
  induction f with
  | zero => intro i t; rfl
  | succ f ih =>
    intro i t
    rw [foL_s, foL_s, ih (i + 1) (rF g st l a seen i t), ih (i + 1) (rF g st l a seen i 0)]
    unfold rF
    split <;> omega
theorem rF_cut {g : Nat → Nat} {P st l a seen : Nat} (h : AB P g) (hP : P ≤ 10) (t : Nat) : foL (rF g st l a seen) 0 P t = t + rnd g st (l + 1) a seen := by
  rw [rF_add, rnd_cut h hP]
  rfl
theorem ahB_iff {rg : Nat → Nat} {p : Nat} : ∀ (f i : Nat), ahB rg p f i = true ↔ ∃ j, i ≤ j ∧ j < i + f ∧ rg j = p := by
  intro f
  induction f with
  | zero => intro i; simp only [ahB]; exact ⟨fun h => (by cases h), fun ⟨j, a, b, _⟩ => by omega⟩
  | succ f ih =>
    intro i
    simp only [ahB, Bool.or_eq_true, decide_eq_true_eq]
    rw [ih (i + 1)]
    constructor
    · rintro (h | ⟨j, a, b, c⟩)
      · exact ⟨i, by omega, by omega, h⟩
      · exact ⟨j, by omega, by omega, c⟩
    · rintro ⟨j, a, b, c⟩
      by_cases e : j = i
      · exact Or.inl (e ▸ c)
      · exact Or.inr ⟨j, by omega, by omega, c⟩
theorem ah_up {rg : Nat → Nat} {k p q seen : Nat} (h : seen.testBit q = true ↔ ahB rg q (k + 1) 0 = true) : (seen ||| 2 ^ p).testBit q = true ↔ ahB (upN rg (k + 1) p) q (k + 1 + 1) 0 = true := by
  rw [or_bit, h, ahB_iff, ahB_iff]
  constructor
  · rintro (⟨j, a, b, c⟩ | e)
    · exact ⟨j, a, by omega, by unfold upN; rw [if_neg (by omega)]; exact c⟩
    · exact ⟨k + 1, by omega, by omega, by unfold upN; rw [if_pos rfl]; exact e⟩
  · rintro ⟨j, a, b, c⟩
    unfold upN at c
    by_cases e : j = k + 1
    · rw [if_pos e] at c; exact Or.inr c
    · rw [if_neg e] at c; exact Or.inl ⟨j, a, by omega, c⟩
theorem nI_pm (k : Nat) : nI (k + 1) + (-1) = nI k := by rw [← nI_pred k, Int32.sub_eq_add_neg]
theorem lp_ring {x : Nat × (Nat → Int32)} {d : Nat} {I0 : Nat → Nat → Int32} {J : Nat → Nat → Int64} {R : Nat → Nat → Option Nat} {G : zG} {g : Nat → Nat} {P N st : Nat} {Q : Option Value → zM → Prop} (hR : Rs R) (hS : Sh G) (hg : AJ I0 67 g) (hab : AB P g) (h0 : I0 62 0 = nI P) (hP : P ≤ 10) (hN : N ≤ 5) (hst : st < 10) :
    ∀ (l k seen : Nat) (rg : Nat → Nat), k + 1 + l = N → (∀ i, i < k + 1 → rg i < 10) → (∀ q, q < 10 → (seen.testBit q = true ↔ ahB rg q (k + 1) 0 = true)) →
    ∀ (f p many : Nat) (I : Nat → Nat → Int32) (u5 : Value), p + f = P → (∀ i, i < k + 1 → I 68 i = nI (rg i)) → I 68 (k + 1) + 1 = nI p → (∀ a b, a ≠ 68 → I a b = I0 a b) →
    (∀ I' u5', (∀ i, i < k + 1 → I' 68 i = nI (rg i)) → (∀ a b, a ≠ 68 → I' a b = I0 a b) → zOk x (d + 1) 194 126 [.ref 51, .int (nI (N + 1)), .int (nI st), .int (nI (foL (rF g st l (rg k) seen) p f many)), .int (nI k), u5'] [] (I', J, R, G) Q) →
    zOk x (d + 1) 194 126 [.ref 51, .int (nI (N + 1)), .int (nI st), .int (nI many), .int (nI (k + 1)), u5] [] (I, J, R, G) Q := by
  intro l
  induction l with
  | zero =>
    intro k seen rg hk1 hrg hsn f
    induction f with
    | zero =>
      intro p many I u5 hp hrm hv hfr hk
      refine k_iload f194_126 rfl ?_
      refine k_if_le f194_128 (fun h_ => absurd h_ (nI_ge (a := 0) (b := k + 1) (by omega) (by omega))) (fun _ => ?_)
      refine k_aload f194_131 rfl ?_
      refine k_getr (q := 68) f194_132 hS.o51 rfl hR.r51_36 ?_
      refine k_iload f194_135 rfl ?_
      refine k_dup2 f194_137 ?_
      refine k_ia (k := (k + 1)) (w := I 68 (k + 1)) f194_138 hS.a68 rfl (by omega) (by decide) rfl ?_
      refine k_iconst (v := 1) f194_139 rfl ?_
      refine k_iadd f194_140 ?_
      rw [hv]
      refine k_is (k := (k + 1)) f194_141 hS.a68 rfl (by omega) (by decide) ?_
      refine k_aload f194_142 rfl ?_
      refine k_getr (q := 68) f194_143 hS.o51 rfl hR.r51_36 ?_
      refine k_iload f194_146 rfl ?_
      refine k_ia (k := (k + 1)) (w := nI p) f194_148 hS.a68 rfl (by omega) (by decide) (z_u_same _ _ _ _) ?_
      refine k_istore (L' := [.ref 51, .int (nI (N + 1)), .int (nI st), .int (nI many), .int (nI (k + 1)), .int (nI p)]) f194_149 rfl rfl ?_
      obtain ⟨I1, eI1⟩ : ∃ I1, I1 = z_u I 68 (k + 1) (nI p) := ⟨_, rfl⟩
      rw [← eI1]
      have h1 : (∀ i, i < k + 1 → I1 68 i = nI (rg i)) := fun i hi => by rw [eI1, z_u_k _ _ _ (by omega)]; exact hrm i hi
      have e1 : I1 68 (k + 1) = nI p := by rw [eI1, z_u_same]
      have f1 : (∀ a b, a ≠ 68 → I1 a b = I0 a b) := fun a b h => by rw [eI1, z_u_p _ _ _ _ h]; exact hfr a b h
      have la := hrg k (by omega)
      have hg1 : AJ I1 67 g := fun q hq => ⟨(f1 _ _ (by omega)).trans (hg q hq).1, (hg q hq).2⟩
      refine k_iload f194_151 rfl ?_
      refine k_aload f194_153 rfl ?_
      refine k_getr (q := 62) f194_154 hS.o51 rfl hR.r51_25 ?_
      refine k_iconst (v := 0) f194_157 rfl ?_
      refine k_ia (k := 0) (w := nI P) f194_158 hS.a62 rfl (by decide) (by decide) ((f1 _ _ (by omega)).trans h0) ?_
      refine k_ic_lt f194_159 (fun h_ => absurd h_ ((fun q => absurd ((nI_ltI (by omega) (by omega)).mp q) (by omega)))) (fun _ => ?_)
      refine k_iinc (w := (nI (k + 1)) + (-1)) (L' := [.ref 51, .int (nI (N + 1)), .int (nI st), .int (nI many), .int ((nI (k + 1)) + (-1)), .int (nI p)]) f194_162 rfl rfl rfl rfl ?_
      refine k_goto f194_165 ?_
      refine k_goto f194_245 ?_
      rw [nI_pm k]
      exact hk I1 _ h1 f1
    | succ f ihf =>
      intro p many I u5 hp hrm hv hfr hk
      have hp9 : p < 10 := by omega
      rw [foL_s] at hk
      by_cases hb : (g (rg k)).testBit p = true
      · by_cases ha : ahB rg p (k + 1) 0 = true
        · refine k_iload f194_126 rfl ?_
          refine k_if_le f194_128 (fun h_ => absurd h_ (nI_ge (a := 0) (b := k + 1) (by omega) (by omega))) (fun _ => ?_)
          refine k_aload f194_131 rfl ?_
          refine k_getr (q := 68) f194_132 hS.o51 rfl hR.r51_36 ?_
          refine k_iload f194_135 rfl ?_
          refine k_dup2 f194_137 ?_
          refine k_ia (k := (k + 1)) (w := I 68 (k + 1)) f194_138 hS.a68 rfl (by omega) (by decide) rfl ?_
          refine k_iconst (v := 1) f194_139 rfl ?_
          refine k_iadd f194_140 ?_
          rw [hv]
          refine k_is (k := (k + 1)) f194_141 hS.a68 rfl (by omega) (by decide) ?_
          refine k_aload f194_142 rfl ?_
          refine k_getr (q := 68) f194_143 hS.o51 rfl hR.r51_36 ?_
          refine k_iload f194_146 rfl ?_
          refine k_ia (k := (k + 1)) (w := nI p) f194_148 hS.a68 rfl (by omega) (by decide) (z_u_same _ _ _ _) ?_
          refine k_istore (L' := [.ref 51, .int (nI (N + 1)), .int (nI st), .int (nI many), .int (nI (k + 1)), .int (nI p)]) f194_149 rfl rfl ?_
          obtain ⟨I1, eI1⟩ : ∃ I1, I1 = z_u I 68 (k + 1) (nI p) := ⟨_, rfl⟩
          rw [← eI1]
          have h1 : (∀ i, i < k + 1 → I1 68 i = nI (rg i)) := fun i hi => by rw [eI1, z_u_k _ _ _ (by omega)]; exact hrm i hi
          have e1 : I1 68 (k + 1) = nI p := by rw [eI1, z_u_same]
          have f1 : (∀ a b, a ≠ 68 → I1 a b = I0 a b) := fun a b h => by rw [eI1, z_u_p _ _ _ _ h]; exact hfr a b h
          have la := hrg k (by omega)
          have hg1 : AJ I1 67 g := fun q hq => ⟨(f1 _ _ (by omega)).trans (hg q hq).1, (hg q hq).2⟩
          refine k_iload f194_151 rfl ?_
          refine k_aload f194_153 rfl ?_
          refine k_getr (q := 62) f194_154 hS.o51 rfl hR.r51_25 ?_
          refine k_iconst (v := 0) f194_157 rfl ?_
          refine k_ia (k := 0) (w := nI P) f194_158 hS.a62 rfl (by decide) (by decide) ((f1 _ _ (by omega)).trans h0) ?_
          refine k_ic_lt f194_159 (fun _ => ?_) (fun h_ => absurd (nI_lt (by omega) (by omega)) h_)
          refine k_aload f194_168 rfl ?_
          refine k_getr (q := 67) f194_169 hS.o51 rfl hR.r51_35 ?_
          refine k_aload f194_172 rfl ?_
          refine k_getr (q := 68) f194_173 hS.o51 rfl hR.r51_36 ?_
          refine k_iload f194_176 rfl ?_
          refine k_iconst (v := 1) f194_178 rfl ?_
          refine k_isub f194_179 ?_
          rw [nI_pred k]
          refine k_ia (k := k) (w := nI (rg k)) f194_180 hS.a68 rfl (by omega) (by decide) (h1 k (by omega)) ?_
          refine k_ia (k := (rg k)) (w := nI (g (rg k))) f194_181 hS.a67 rfl (by omega) (by decide) (hg1 _ la).1 ?_
          refine k_iload f194_182 rfl ?_
          refine e_s (as := [.int (nI p), .int (nI (g (rg k)))]) (rest := []) f194_184 rfl rfl rfl (s_isOf (b := g (rg k)) (p := p) (by have := (hg1 _ la).2; omega) (by omega)) ?_
          refine k_beq f194_187 (fun h_ => absurd (hb) h_) (fun _ => ?_)
          refine k_aload f194_190 rfl ?_
          refine k_iload f194_191 rfl ?_
          refine k_iload f194_193 rfl ?_
          refine e_v (as := [.int (nI (k + 1)), .int (nI p)]) (rest := []) f194_195 hS.o51 rfl rfl rfl (s_isAhead (k := k + 1) (p := p) (rg := rg) hR hS (by omega) (by omega) (fun i hi => ⟨h1 i hi, hrg i hi⟩)) ?_
          refine k_bne f194_198 (fun _ => ?_) (fun h_ => absurd (ha) h_)
          refine k_goto f194_245 ?_
          rw [show rF g st 0 (rg k) seen p many = many from if_neg (fun q => q.2 ((hsn p hp9).mpr ha))] at hk
          exact ihf (p + 1) many I1 _ (by omega) h1 (by rw [e1]; exact nI_1 p) f1 hk
        · have hs9 : ¬ seen.testBit p = true := fun q => ha ((hsn p hp9).mp q)
          by_cases hs : (g p).testBit st = true
          · refine k_iload f194_126 rfl ?_
            refine k_if_le f194_128 (fun h_ => absurd h_ (nI_ge (a := 0) (b := k + 1) (by omega) (by omega))) (fun _ => ?_)
            refine k_aload f194_131 rfl ?_
            refine k_getr (q := 68) f194_132 hS.o51 rfl hR.r51_36 ?_
            refine k_iload f194_135 rfl ?_
            refine k_dup2 f194_137 ?_
            refine k_ia (k := (k + 1)) (w := I 68 (k + 1)) f194_138 hS.a68 rfl (by omega) (by decide) rfl ?_
            refine k_iconst (v := 1) f194_139 rfl ?_
            refine k_iadd f194_140 ?_
            rw [hv]
            refine k_is (k := (k + 1)) f194_141 hS.a68 rfl (by omega) (by decide) ?_
            refine k_aload f194_142 rfl ?_
            refine k_getr (q := 68) f194_143 hS.o51 rfl hR.r51_36 ?_
            refine k_iload f194_146 rfl ?_
            refine k_ia (k := (k + 1)) (w := nI p) f194_148 hS.a68 rfl (by omega) (by decide) (z_u_same _ _ _ _) ?_
            refine k_istore (L' := [.ref 51, .int (nI (N + 1)), .int (nI st), .int (nI many), .int (nI (k + 1)), .int (nI p)]) f194_149 rfl rfl ?_
            obtain ⟨I1, eI1⟩ : ∃ I1, I1 = z_u I 68 (k + 1) (nI p) := ⟨_, rfl⟩
            rw [← eI1]
            have h1 : (∀ i, i < k + 1 → I1 68 i = nI (rg i)) := fun i hi => by rw [eI1, z_u_k _ _ _ (by omega)]; exact hrm i hi
            have e1 : I1 68 (k + 1) = nI p := by rw [eI1, z_u_same]
            have f1 : (∀ a b, a ≠ 68 → I1 a b = I0 a b) := fun a b h => by rw [eI1, z_u_p _ _ _ _ h]; exact hfr a b h
            have la := hrg k (by omega)
            have hg1 : AJ I1 67 g := fun q hq => ⟨(f1 _ _ (by omega)).trans (hg q hq).1, (hg q hq).2⟩
            refine k_iload f194_151 rfl ?_
            refine k_aload f194_153 rfl ?_
            refine k_getr (q := 62) f194_154 hS.o51 rfl hR.r51_25 ?_
            refine k_iconst (v := 0) f194_157 rfl ?_
            refine k_ia (k := 0) (w := nI P) f194_158 hS.a62 rfl (by decide) (by decide) ((f1 _ _ (by omega)).trans h0) ?_
            refine k_ic_lt f194_159 (fun _ => ?_) (fun h_ => absurd (nI_lt (by omega) (by omega)) h_)
            refine k_aload f194_168 rfl ?_
            refine k_getr (q := 67) f194_169 hS.o51 rfl hR.r51_35 ?_
            refine k_aload f194_172 rfl ?_
            refine k_getr (q := 68) f194_173 hS.o51 rfl hR.r51_36 ?_
            refine k_iload f194_176 rfl ?_
            refine k_iconst (v := 1) f194_178 rfl ?_
            refine k_isub f194_179 ?_
            rw [nI_pred k]
            refine k_ia (k := k) (w := nI (rg k)) f194_180 hS.a68 rfl (by omega) (by decide) (h1 k (by omega)) ?_
            refine k_ia (k := (rg k)) (w := nI (g (rg k))) f194_181 hS.a67 rfl (by omega) (by decide) (hg1 _ la).1 ?_
            refine k_iload f194_182 rfl ?_
            refine e_s (as := [.int (nI p), .int (nI (g (rg k)))]) (rest := []) f194_184 rfl rfl rfl (s_isOf (b := g (rg k)) (p := p) (by have := (hg1 _ la).2; omega) (by omega)) ?_
            refine k_beq f194_187 (fun h_ => absurd (hb) h_) (fun _ => ?_)
            refine k_aload f194_190 rfl ?_
            refine k_iload f194_191 rfl ?_
            refine k_iload f194_193 rfl ?_
            refine e_v (as := [.int (nI (k + 1)), .int (nI p)]) (rest := []) f194_195 hS.o51 rfl rfl rfl (s_isAhead (k := k + 1) (p := p) (rg := rg) hR hS (by omega) (by omega) (fun i hi => ⟨h1 i hi, hrg i hi⟩)) ?_
            refine k_bne f194_198 (fun h_ => absurd h_ (ha)) (fun _ => ?_)
            refine k_iload f194_201 rfl ?_
            refine k_iload f194_203 rfl ?_
            refine k_iconst (v := 1) f194_204 rfl ?_
            refine k_isub f194_205 ?_
            rw [nI_pred N]
            refine k_ic_ne f194_206 (fun h_ => absurd (congrArg nI (by omega)) h_) (fun _ => ?_)
            refine k_iload f194_209 rfl ?_
            refine k_aload f194_210 rfl ?_
            refine k_getr (q := 67) f194_211 hS.o51 rfl hR.r51_35 ?_
            refine k_iload f194_214 rfl ?_
            refine k_ia (k := p) (w := nI (g p)) f194_216 hS.a67 rfl (by omega) (by decide) (hg1 p (by omega)).1 ?_
            refine k_iload f194_217 rfl ?_
            refine e_s (as := [.int (nI st), .int (nI (g p))]) (rest := [.int (nI many)]) f194_218 rfl rfl rfl (s_isOf (b := g p) (p := st) (by have := (hg1 p (by omega)).2; omega) (by omega)) ?_
            refine k_beq f194_221 (fun h_ => absurd (hs) h_) (fun _ => ?_)
            refine k_iconst (v := 1) f194_224 rfl ?_
            refine k_goto f194_225 ?_
            refine k_iadd f194_229 ?_
            rw [nI_1 many]
            refine k_istore (L' := [.ref 51, .int (nI (N + 1)), .int (nI st), .int (nI (many + 1)), .int (nI (k + 1)), .int (nI p)]) f194_230 rfl rfl ?_
            refine k_goto f194_231 ?_
            refine k_goto f194_245 ?_
            rw [show rF g st 0 (rg k) seen p many = many + 1 from (if_pos ⟨hb, hs9⟩).trans (congrArg (fun t => many + t) (if_pos hs))] at hk
            exact ihf (p + 1) (many + 1) I1 _ (by omega) h1 (by rw [e1]; exact nI_1 p) f1 hk
          · refine k_iload f194_126 rfl ?_
            refine k_if_le f194_128 (fun h_ => absurd h_ (nI_ge (a := 0) (b := k + 1) (by omega) (by omega))) (fun _ => ?_)
            refine k_aload f194_131 rfl ?_
            refine k_getr (q := 68) f194_132 hS.o51 rfl hR.r51_36 ?_
            refine k_iload f194_135 rfl ?_
            refine k_dup2 f194_137 ?_
            refine k_ia (k := (k + 1)) (w := I 68 (k + 1)) f194_138 hS.a68 rfl (by omega) (by decide) rfl ?_
            refine k_iconst (v := 1) f194_139 rfl ?_
            refine k_iadd f194_140 ?_
            rw [hv]
            refine k_is (k := (k + 1)) f194_141 hS.a68 rfl (by omega) (by decide) ?_
            refine k_aload f194_142 rfl ?_
            refine k_getr (q := 68) f194_143 hS.o51 rfl hR.r51_36 ?_
            refine k_iload f194_146 rfl ?_
            refine k_ia (k := (k + 1)) (w := nI p) f194_148 hS.a68 rfl (by omega) (by decide) (z_u_same _ _ _ _) ?_
            refine k_istore (L' := [.ref 51, .int (nI (N + 1)), .int (nI st), .int (nI many), .int (nI (k + 1)), .int (nI p)]) f194_149 rfl rfl ?_
            obtain ⟨I1, eI1⟩ : ∃ I1, I1 = z_u I 68 (k + 1) (nI p) := ⟨_, rfl⟩
            rw [← eI1]
            have h1 : (∀ i, i < k + 1 → I1 68 i = nI (rg i)) := fun i hi => by rw [eI1, z_u_k _ _ _ (by omega)]; exact hrm i hi
            have e1 : I1 68 (k + 1) = nI p := by rw [eI1, z_u_same]
            have f1 : (∀ a b, a ≠ 68 → I1 a b = I0 a b) := fun a b h => by rw [eI1, z_u_p _ _ _ _ h]; exact hfr a b h
            have la := hrg k (by omega)
            have hg1 : AJ I1 67 g := fun q hq => ⟨(f1 _ _ (by omega)).trans (hg q hq).1, (hg q hq).2⟩
            refine k_iload f194_151 rfl ?_
            refine k_aload f194_153 rfl ?_
            refine k_getr (q := 62) f194_154 hS.o51 rfl hR.r51_25 ?_
            refine k_iconst (v := 0) f194_157 rfl ?_
            refine k_ia (k := 0) (w := nI P) f194_158 hS.a62 rfl (by decide) (by decide) ((f1 _ _ (by omega)).trans h0) ?_
            refine k_ic_lt f194_159 (fun _ => ?_) (fun h_ => absurd (nI_lt (by omega) (by omega)) h_)
            refine k_aload f194_168 rfl ?_
            refine k_getr (q := 67) f194_169 hS.o51 rfl hR.r51_35 ?_
            refine k_aload f194_172 rfl ?_
            refine k_getr (q := 68) f194_173 hS.o51 rfl hR.r51_36 ?_
            refine k_iload f194_176 rfl ?_
            refine k_iconst (v := 1) f194_178 rfl ?_
            refine k_isub f194_179 ?_
            rw [nI_pred k]
            refine k_ia (k := k) (w := nI (rg k)) f194_180 hS.a68 rfl (by omega) (by decide) (h1 k (by omega)) ?_
            refine k_ia (k := (rg k)) (w := nI (g (rg k))) f194_181 hS.a67 rfl (by omega) (by decide) (hg1 _ la).1 ?_
            refine k_iload f194_182 rfl ?_
            refine e_s (as := [.int (nI p), .int (nI (g (rg k)))]) (rest := []) f194_184 rfl rfl rfl (s_isOf (b := g (rg k)) (p := p) (by have := (hg1 _ la).2; omega) (by omega)) ?_
            refine k_beq f194_187 (fun h_ => absurd (hb) h_) (fun _ => ?_)
            refine k_aload f194_190 rfl ?_
            refine k_iload f194_191 rfl ?_
            refine k_iload f194_193 rfl ?_
            refine e_v (as := [.int (nI (k + 1)), .int (nI p)]) (rest := []) f194_195 hS.o51 rfl rfl rfl (s_isAhead (k := k + 1) (p := p) (rg := rg) hR hS (by omega) (by omega) (fun i hi => ⟨h1 i hi, hrg i hi⟩)) ?_
            refine k_bne f194_198 (fun h_ => absurd h_ (ha)) (fun _ => ?_)
            refine k_iload f194_201 rfl ?_
            refine k_iload f194_203 rfl ?_
            refine k_iconst (v := 1) f194_204 rfl ?_
            refine k_isub f194_205 ?_
            rw [nI_pred N]
            refine k_ic_ne f194_206 (fun h_ => absurd (congrArg nI (by omega)) h_) (fun _ => ?_)
            refine k_iload f194_209 rfl ?_
            refine k_aload f194_210 rfl ?_
            refine k_getr (q := 67) f194_211 hS.o51 rfl hR.r51_35 ?_
            refine k_iload f194_214 rfl ?_
            refine k_ia (k := p) (w := nI (g p)) f194_216 hS.a67 rfl (by omega) (by decide) (hg1 p (by omega)).1 ?_
            refine k_iload f194_217 rfl ?_
            refine e_s (as := [.int (nI st), .int (nI (g p))]) (rest := [.int (nI many)]) f194_218 rfl rfl rfl (s_isOf (b := g p) (p := st) (by have := (hg1 p (by omega)).2; omega) (by omega)) ?_
            refine k_beq f194_221 (fun _ => ?_) (fun h_ => (absurd h_ (hs)))
            refine k_iconst (v := 0) f194_228 rfl ?_
            refine k_iadd f194_229 ?_
            rw [ad_0]
            refine k_istore (L' := [.ref 51, .int (nI (N + 1)), .int (nI st), .int (nI many), .int (nI (k + 1)), .int (nI p)]) f194_230 rfl rfl ?_
            refine k_goto f194_231 ?_
            refine k_goto f194_245 ?_
            rw [show rF g st 0 (rg k) seen p many = many from (if_pos ⟨hb, hs9⟩).trans (congrArg (fun t => many + t) (if_neg hs))] at hk
            exact ihf (p + 1) many I1 _ (by omega) h1 (by rw [e1]; exact nI_1 p) f1 hk
      · refine k_iload f194_126 rfl ?_
        refine k_if_le f194_128 (fun h_ => absurd h_ (nI_ge (a := 0) (b := k + 1) (by omega) (by omega))) (fun _ => ?_)
        refine k_aload f194_131 rfl ?_
        refine k_getr (q := 68) f194_132 hS.o51 rfl hR.r51_36 ?_
        refine k_iload f194_135 rfl ?_
        refine k_dup2 f194_137 ?_
        refine k_ia (k := (k + 1)) (w := I 68 (k + 1)) f194_138 hS.a68 rfl (by omega) (by decide) rfl ?_
        refine k_iconst (v := 1) f194_139 rfl ?_
        refine k_iadd f194_140 ?_
        rw [hv]
        refine k_is (k := (k + 1)) f194_141 hS.a68 rfl (by omega) (by decide) ?_
        refine k_aload f194_142 rfl ?_
        refine k_getr (q := 68) f194_143 hS.o51 rfl hR.r51_36 ?_
        refine k_iload f194_146 rfl ?_
        refine k_ia (k := (k + 1)) (w := nI p) f194_148 hS.a68 rfl (by omega) (by decide) (z_u_same _ _ _ _) ?_
        refine k_istore (L' := [.ref 51, .int (nI (N + 1)), .int (nI st), .int (nI many), .int (nI (k + 1)), .int (nI p)]) f194_149 rfl rfl ?_
        obtain ⟨I1, eI1⟩ : ∃ I1, I1 = z_u I 68 (k + 1) (nI p) := ⟨_, rfl⟩
        rw [← eI1]
        have h1 : (∀ i, i < k + 1 → I1 68 i = nI (rg i)) := fun i hi => by rw [eI1, z_u_k _ _ _ (by omega)]; exact hrm i hi
        have e1 : I1 68 (k + 1) = nI p := by rw [eI1, z_u_same]
        have f1 : (∀ a b, a ≠ 68 → I1 a b = I0 a b) := fun a b h => by rw [eI1, z_u_p _ _ _ _ h]; exact hfr a b h
        have la := hrg k (by omega)
        have hg1 : AJ I1 67 g := fun q hq => ⟨(f1 _ _ (by omega)).trans (hg q hq).1, (hg q hq).2⟩
        refine k_iload f194_151 rfl ?_
        refine k_aload f194_153 rfl ?_
        refine k_getr (q := 62) f194_154 hS.o51 rfl hR.r51_25 ?_
        refine k_iconst (v := 0) f194_157 rfl ?_
        refine k_ia (k := 0) (w := nI P) f194_158 hS.a62 rfl (by decide) (by decide) ((f1 _ _ (by omega)).trans h0) ?_
        refine k_ic_lt f194_159 (fun _ => ?_) (fun h_ => absurd (nI_lt (by omega) (by omega)) h_)
        refine k_aload f194_168 rfl ?_
        refine k_getr (q := 67) f194_169 hS.o51 rfl hR.r51_35 ?_
        refine k_aload f194_172 rfl ?_
        refine k_getr (q := 68) f194_173 hS.o51 rfl hR.r51_36 ?_
        refine k_iload f194_176 rfl ?_
        refine k_iconst (v := 1) f194_178 rfl ?_
        refine k_isub f194_179 ?_
        rw [nI_pred k]
        refine k_ia (k := k) (w := nI (rg k)) f194_180 hS.a68 rfl (by omega) (by decide) (h1 k (by omega)) ?_
        refine k_ia (k := (rg k)) (w := nI (g (rg k))) f194_181 hS.a67 rfl (by omega) (by decide) (hg1 _ la).1 ?_
        refine k_iload f194_182 rfl ?_
        refine e_s (as := [.int (nI p), .int (nI (g (rg k)))]) (rest := []) f194_184 rfl rfl rfl (s_isOf (b := g (rg k)) (p := p) (by have := (hg1 _ la).2; omega) (by omega)) ?_
        refine k_beq f194_187 (fun _ => ?_) (fun h_ => (absurd h_ (hb)))
        refine k_goto f194_245 ?_
        rw [show rF g st 0 (rg k) seen p many = many from if_neg (fun q => hb q.1)] at hk
        exact ihf (p + 1) many I1 _ (by omega) h1 (by rw [e1]; exact nI_1 p) f1 hk
  | succ l ih =>
    intro k seen rg hk1 hrg hsn f
    induction f with
    | zero =>
      intro p many I u5 hp hrm hv hfr hk
      refine k_iload f194_126 rfl ?_
      refine k_if_le f194_128 (fun h_ => absurd h_ (nI_ge (a := 0) (b := k + 1) (by omega) (by omega))) (fun _ => ?_)
      refine k_aload f194_131 rfl ?_
      refine k_getr (q := 68) f194_132 hS.o51 rfl hR.r51_36 ?_
      refine k_iload f194_135 rfl ?_
      refine k_dup2 f194_137 ?_
      refine k_ia (k := (k + 1)) (w := I 68 (k + 1)) f194_138 hS.a68 rfl (by omega) (by decide) rfl ?_
      refine k_iconst (v := 1) f194_139 rfl ?_
      refine k_iadd f194_140 ?_
      rw [hv]
      refine k_is (k := (k + 1)) f194_141 hS.a68 rfl (by omega) (by decide) ?_
      refine k_aload f194_142 rfl ?_
      refine k_getr (q := 68) f194_143 hS.o51 rfl hR.r51_36 ?_
      refine k_iload f194_146 rfl ?_
      refine k_ia (k := (k + 1)) (w := nI p) f194_148 hS.a68 rfl (by omega) (by decide) (z_u_same _ _ _ _) ?_
      refine k_istore (L' := [.ref 51, .int (nI (N + 1)), .int (nI st), .int (nI many), .int (nI (k + 1)), .int (nI p)]) f194_149 rfl rfl ?_
      obtain ⟨I1, eI1⟩ : ∃ I1, I1 = z_u I 68 (k + 1) (nI p) := ⟨_, rfl⟩
      rw [← eI1]
      have h1 : (∀ i, i < k + 1 → I1 68 i = nI (rg i)) := fun i hi => by rw [eI1, z_u_k _ _ _ (by omega)]; exact hrm i hi
      have e1 : I1 68 (k + 1) = nI p := by rw [eI1, z_u_same]
      have f1 : (∀ a b, a ≠ 68 → I1 a b = I0 a b) := fun a b h => by rw [eI1, z_u_p _ _ _ _ h]; exact hfr a b h
      have la := hrg k (by omega)
      have hg1 : AJ I1 67 g := fun q hq => ⟨(f1 _ _ (by omega)).trans (hg q hq).1, (hg q hq).2⟩
      refine k_iload f194_151 rfl ?_
      refine k_aload f194_153 rfl ?_
      refine k_getr (q := 62) f194_154 hS.o51 rfl hR.r51_25 ?_
      refine k_iconst (v := 0) f194_157 rfl ?_
      refine k_ia (k := 0) (w := nI P) f194_158 hS.a62 rfl (by decide) (by decide) ((f1 _ _ (by omega)).trans h0) ?_
      refine k_ic_lt f194_159 (fun h_ => absurd h_ ((fun q => absurd ((nI_ltI (by omega) (by omega)).mp q) (by omega)))) (fun _ => ?_)
      refine k_iinc (w := (nI (k + 1)) + (-1)) (L' := [.ref 51, .int (nI (N + 1)), .int (nI st), .int (nI many), .int ((nI (k + 1)) + (-1)), .int (nI p)]) f194_162 rfl rfl rfl rfl ?_
      refine k_goto f194_165 ?_
      refine k_goto f194_245 ?_
      rw [nI_pm k]
      exact hk I1 _ h1 f1
    | succ f ihf =>
      intro p many I u5 hp hrm hv hfr hk
      have hp9 : p < 10 := by omega
      rw [foL_s] at hk
      by_cases hb : (g (rg k)).testBit p = true
      · by_cases ha : ahB rg p (k + 1) 0 = true
        · refine k_iload f194_126 rfl ?_
          refine k_if_le f194_128 (fun h_ => absurd h_ (nI_ge (a := 0) (b := k + 1) (by omega) (by omega))) (fun _ => ?_)
          refine k_aload f194_131 rfl ?_
          refine k_getr (q := 68) f194_132 hS.o51 rfl hR.r51_36 ?_
          refine k_iload f194_135 rfl ?_
          refine k_dup2 f194_137 ?_
          refine k_ia (k := (k + 1)) (w := I 68 (k + 1)) f194_138 hS.a68 rfl (by omega) (by decide) rfl ?_
          refine k_iconst (v := 1) f194_139 rfl ?_
          refine k_iadd f194_140 ?_
          rw [hv]
          refine k_is (k := (k + 1)) f194_141 hS.a68 rfl (by omega) (by decide) ?_
          refine k_aload f194_142 rfl ?_
          refine k_getr (q := 68) f194_143 hS.o51 rfl hR.r51_36 ?_
          refine k_iload f194_146 rfl ?_
          refine k_ia (k := (k + 1)) (w := nI p) f194_148 hS.a68 rfl (by omega) (by decide) (z_u_same _ _ _ _) ?_
          refine k_istore (L' := [.ref 51, .int (nI (N + 1)), .int (nI st), .int (nI many), .int (nI (k + 1)), .int (nI p)]) f194_149 rfl rfl ?_
          obtain ⟨I1, eI1⟩ : ∃ I1, I1 = z_u I 68 (k + 1) (nI p) := ⟨_, rfl⟩
          rw [← eI1]
          have h1 : (∀ i, i < k + 1 → I1 68 i = nI (rg i)) := fun i hi => by rw [eI1, z_u_k _ _ _ (by omega)]; exact hrm i hi
          have e1 : I1 68 (k + 1) = nI p := by rw [eI1, z_u_same]
          have f1 : (∀ a b, a ≠ 68 → I1 a b = I0 a b) := fun a b h => by rw [eI1, z_u_p _ _ _ _ h]; exact hfr a b h
          have la := hrg k (by omega)
          have hg1 : AJ I1 67 g := fun q hq => ⟨(f1 _ _ (by omega)).trans (hg q hq).1, (hg q hq).2⟩
          refine k_iload f194_151 rfl ?_
          refine k_aload f194_153 rfl ?_
          refine k_getr (q := 62) f194_154 hS.o51 rfl hR.r51_25 ?_
          refine k_iconst (v := 0) f194_157 rfl ?_
          refine k_ia (k := 0) (w := nI P) f194_158 hS.a62 rfl (by decide) (by decide) ((f1 _ _ (by omega)).trans h0) ?_
          refine k_ic_lt f194_159 (fun _ => ?_) (fun h_ => absurd (nI_lt (by omega) (by omega)) h_)
          refine k_aload f194_168 rfl ?_
          refine k_getr (q := 67) f194_169 hS.o51 rfl hR.r51_35 ?_
          refine k_aload f194_172 rfl ?_
          refine k_getr (q := 68) f194_173 hS.o51 rfl hR.r51_36 ?_
          refine k_iload f194_176 rfl ?_
          refine k_iconst (v := 1) f194_178 rfl ?_
          refine k_isub f194_179 ?_
          rw [nI_pred k]
          refine k_ia (k := k) (w := nI (rg k)) f194_180 hS.a68 rfl (by omega) (by decide) (h1 k (by omega)) ?_
          refine k_ia (k := (rg k)) (w := nI (g (rg k))) f194_181 hS.a67 rfl (by omega) (by decide) (hg1 _ la).1 ?_
          refine k_iload f194_182 rfl ?_
          refine e_s (as := [.int (nI p), .int (nI (g (rg k)))]) (rest := []) f194_184 rfl rfl rfl (s_isOf (b := g (rg k)) (p := p) (by have := (hg1 _ la).2; omega) (by omega)) ?_
          refine k_beq f194_187 (fun h_ => absurd (hb) h_) (fun _ => ?_)
          refine k_aload f194_190 rfl ?_
          refine k_iload f194_191 rfl ?_
          refine k_iload f194_193 rfl ?_
          refine e_v (as := [.int (nI (k + 1)), .int (nI p)]) (rest := []) f194_195 hS.o51 rfl rfl rfl (s_isAhead (k := k + 1) (p := p) (rg := rg) hR hS (by omega) (by omega) (fun i hi => ⟨h1 i hi, hrg i hi⟩)) ?_
          refine k_bne f194_198 (fun _ => ?_) (fun h_ => absurd (ha) h_)
          refine k_goto f194_245 ?_
          rw [show rF g st (l + 1) (rg k) seen p many = many from if_neg (fun q => q.2 ((hsn p hp9).mpr ha))] at hk
          exact ihf (p + 1) many I1 _ (by omega) h1 (by rw [e1]; exact nI_1 p) f1 hk
        · have hs9 : ¬ seen.testBit p = true := fun q => ha ((hsn p hp9).mp q)
          refine k_iload f194_126 rfl ?_
          refine k_if_le f194_128 (fun h_ => absurd h_ (nI_ge (a := 0) (b := k + 1) (by omega) (by omega))) (fun _ => ?_)
          refine k_aload f194_131 rfl ?_
          refine k_getr (q := 68) f194_132 hS.o51 rfl hR.r51_36 ?_
          refine k_iload f194_135 rfl ?_
          refine k_dup2 f194_137 ?_
          refine k_ia (k := (k + 1)) (w := I 68 (k + 1)) f194_138 hS.a68 rfl (by omega) (by decide) rfl ?_
          refine k_iconst (v := 1) f194_139 rfl ?_
          refine k_iadd f194_140 ?_
          rw [hv]
          refine k_is (k := (k + 1)) f194_141 hS.a68 rfl (by omega) (by decide) ?_
          refine k_aload f194_142 rfl ?_
          refine k_getr (q := 68) f194_143 hS.o51 rfl hR.r51_36 ?_
          refine k_iload f194_146 rfl ?_
          refine k_ia (k := (k + 1)) (w := nI p) f194_148 hS.a68 rfl (by omega) (by decide) (z_u_same _ _ _ _) ?_
          refine k_istore (L' := [.ref 51, .int (nI (N + 1)), .int (nI st), .int (nI many), .int (nI (k + 1)), .int (nI p)]) f194_149 rfl rfl ?_
          obtain ⟨I1, eI1⟩ : ∃ I1, I1 = z_u I 68 (k + 1) (nI p) := ⟨_, rfl⟩
          rw [← eI1]
          have h1 : (∀ i, i < k + 1 → I1 68 i = nI (rg i)) := fun i hi => by rw [eI1, z_u_k _ _ _ (by omega)]; exact hrm i hi
          have e1 : I1 68 (k + 1) = nI p := by rw [eI1, z_u_same]
          have f1 : (∀ a b, a ≠ 68 → I1 a b = I0 a b) := fun a b h => by rw [eI1, z_u_p _ _ _ _ h]; exact hfr a b h
          have la := hrg k (by omega)
          have hg1 : AJ I1 67 g := fun q hq => ⟨(f1 _ _ (by omega)).trans (hg q hq).1, (hg q hq).2⟩
          refine k_iload f194_151 rfl ?_
          refine k_aload f194_153 rfl ?_
          refine k_getr (q := 62) f194_154 hS.o51 rfl hR.r51_25 ?_
          refine k_iconst (v := 0) f194_157 rfl ?_
          refine k_ia (k := 0) (w := nI P) f194_158 hS.a62 rfl (by decide) (by decide) ((f1 _ _ (by omega)).trans h0) ?_
          refine k_ic_lt f194_159 (fun _ => ?_) (fun h_ => absurd (nI_lt (by omega) (by omega)) h_)
          refine k_aload f194_168 rfl ?_
          refine k_getr (q := 67) f194_169 hS.o51 rfl hR.r51_35 ?_
          refine k_aload f194_172 rfl ?_
          refine k_getr (q := 68) f194_173 hS.o51 rfl hR.r51_36 ?_
          refine k_iload f194_176 rfl ?_
          refine k_iconst (v := 1) f194_178 rfl ?_
          refine k_isub f194_179 ?_
          rw [nI_pred k]
          refine k_ia (k := k) (w := nI (rg k)) f194_180 hS.a68 rfl (by omega) (by decide) (h1 k (by omega)) ?_
          refine k_ia (k := (rg k)) (w := nI (g (rg k))) f194_181 hS.a67 rfl (by omega) (by decide) (hg1 _ la).1 ?_
          refine k_iload f194_182 rfl ?_
          refine e_s (as := [.int (nI p), .int (nI (g (rg k)))]) (rest := []) f194_184 rfl rfl rfl (s_isOf (b := g (rg k)) (p := p) (by have := (hg1 _ la).2; omega) (by omega)) ?_
          refine k_beq f194_187 (fun h_ => absurd (hb) h_) (fun _ => ?_)
          refine k_aload f194_190 rfl ?_
          refine k_iload f194_191 rfl ?_
          refine k_iload f194_193 rfl ?_
          refine e_v (as := [.int (nI (k + 1)), .int (nI p)]) (rest := []) f194_195 hS.o51 rfl rfl rfl (s_isAhead (k := k + 1) (p := p) (rg := rg) hR hS (by omega) (by omega) (fun i hi => ⟨h1 i hi, hrg i hi⟩)) ?_
          refine k_bne f194_198 (fun h_ => absurd h_ (ha)) (fun _ => ?_)
          refine k_iload f194_201 rfl ?_
          refine k_iload f194_203 rfl ?_
          refine k_iconst (v := 1) f194_204 rfl ?_
          refine k_isub f194_205 ?_
          rw [nI_pred N]
          refine k_ic_ne f194_206 (fun _ => ?_) (fun h_ => absurd ((fun q => absurd ((nI_eq (by omega) (by omega)).mp q) (by omega))) h_)
          refine k_iinc (w := nI ((k + 1) + 1)) (L' := [.ref 51, .int (nI (N + 1)), .int (nI st), .int (nI many), .int (nI ((k + 1) + 1)), .int (nI p)]) f194_234 rfl (nI_1 (k + 1)) rfl rfl ?_
          refine k_aload f194_237 rfl ?_
          refine k_getr (q := 68) f194_238 hS.o51 rfl hR.r51_36 ?_
          refine k_iload f194_241 rfl ?_
          refine k_iconst (v := (-1)) f194_243 rfl ?_
          refine k_is (k := ((k + 1) + 1)) f194_244 hS.a68 rfl (by omega) (by decide) ?_
          refine k_goto f194_245 ?_
          rw [show rF g st (l + 1) (rg k) seen p many = many + rnd g st (l + 1) p (seen ||| 2 ^ p) from if_pos ⟨hb, hs9⟩] at hk
          refine ih (k + 1) (seen ||| 2 ^ p) (upN rg (k + 1) p) (by omega) (fun i hi => ?_) (fun q hq => ah_up (hsn q hq)) P 0 many _ _ (by omega) (fun i hi => ?_) ?_ (fun a b h => by rw [z_u_p _ _ _ _ h]; exact f1 a b h) (fun I' u5' q1 q2 => ?_)
          · unfold upN
            by_cases e : i = k + 1
            · rw [if_pos e]; exact hp9
            · rw [if_neg e]; exact hrg i (by omega)
          · rw [z_u_k _ _ _ (by omega)]
            unfold upN
            by_cases e : i = k + 1
            · rw [if_pos e, e]; exact e1
            · rw [if_neg e]; exact h1 i (by omega)
          · rw [z_u_same]; decide
          · rw [show upN rg (k + 1) p (k + 1) = p from if_pos rfl, rF_cut hab hP]
            refine ihf (p + 1) _ I' _ (by omega) (fun i hi => ?_) ?_ q2 hk
            · have := q1 i (by omega)
              rw [show upN rg (k + 1) p i = rg i from if_neg (by omega)] at this
              exact this
            · rw [q1 (k + 1) (by omega), show upN rg (k + 1) p (k + 1) = p from if_pos rfl]
              exact nI_1 p
      · refine k_iload f194_126 rfl ?_
        refine k_if_le f194_128 (fun h_ => absurd h_ (nI_ge (a := 0) (b := k + 1) (by omega) (by omega))) (fun _ => ?_)
        refine k_aload f194_131 rfl ?_
        refine k_getr (q := 68) f194_132 hS.o51 rfl hR.r51_36 ?_
        refine k_iload f194_135 rfl ?_
        refine k_dup2 f194_137 ?_
        refine k_ia (k := (k + 1)) (w := I 68 (k + 1)) f194_138 hS.a68 rfl (by omega) (by decide) rfl ?_
        refine k_iconst (v := 1) f194_139 rfl ?_
        refine k_iadd f194_140 ?_
        rw [hv]
        refine k_is (k := (k + 1)) f194_141 hS.a68 rfl (by omega) (by decide) ?_
        refine k_aload f194_142 rfl ?_
        refine k_getr (q := 68) f194_143 hS.o51 rfl hR.r51_36 ?_
        refine k_iload f194_146 rfl ?_
        refine k_ia (k := (k + 1)) (w := nI p) f194_148 hS.a68 rfl (by omega) (by decide) (z_u_same _ _ _ _) ?_
        refine k_istore (L' := [.ref 51, .int (nI (N + 1)), .int (nI st), .int (nI many), .int (nI (k + 1)), .int (nI p)]) f194_149 rfl rfl ?_
        obtain ⟨I1, eI1⟩ : ∃ I1, I1 = z_u I 68 (k + 1) (nI p) := ⟨_, rfl⟩
        rw [← eI1]
        have h1 : (∀ i, i < k + 1 → I1 68 i = nI (rg i)) := fun i hi => by rw [eI1, z_u_k _ _ _ (by omega)]; exact hrm i hi
        have e1 : I1 68 (k + 1) = nI p := by rw [eI1, z_u_same]
        have f1 : (∀ a b, a ≠ 68 → I1 a b = I0 a b) := fun a b h => by rw [eI1, z_u_p _ _ _ _ h]; exact hfr a b h
        have la := hrg k (by omega)
        have hg1 : AJ I1 67 g := fun q hq => ⟨(f1 _ _ (by omega)).trans (hg q hq).1, (hg q hq).2⟩
        refine k_iload f194_151 rfl ?_
        refine k_aload f194_153 rfl ?_
        refine k_getr (q := 62) f194_154 hS.o51 rfl hR.r51_25 ?_
        refine k_iconst (v := 0) f194_157 rfl ?_
        refine k_ia (k := 0) (w := nI P) f194_158 hS.a62 rfl (by decide) (by decide) ((f1 _ _ (by omega)).trans h0) ?_
        refine k_ic_lt f194_159 (fun _ => ?_) (fun h_ => absurd (nI_lt (by omega) (by omega)) h_)
        refine k_aload f194_168 rfl ?_
        refine k_getr (q := 67) f194_169 hS.o51 rfl hR.r51_35 ?_
        refine k_aload f194_172 rfl ?_
        refine k_getr (q := 68) f194_173 hS.o51 rfl hR.r51_36 ?_
        refine k_iload f194_176 rfl ?_
        refine k_iconst (v := 1) f194_178 rfl ?_
        refine k_isub f194_179 ?_
        rw [nI_pred k]
        refine k_ia (k := k) (w := nI (rg k)) f194_180 hS.a68 rfl (by omega) (by decide) (h1 k (by omega)) ?_
        refine k_ia (k := (rg k)) (w := nI (g (rg k))) f194_181 hS.a67 rfl (by omega) (by decide) (hg1 _ la).1 ?_
        refine k_iload f194_182 rfl ?_
        refine e_s (as := [.int (nI p), .int (nI (g (rg k)))]) (rest := []) f194_184 rfl rfl rfl (s_isOf (b := g (rg k)) (p := p) (by have := (hg1 _ la).2; omega) (by omega)) ?_
        refine k_beq f194_187 (fun _ => ?_) (fun h_ => (absurd h_ (hb)))
        refine k_goto f194_245 ?_
        rw [show rF g st (l + 1) (rg k) seen p many = many from if_neg (fun q => hb q.1)] at hk
        exact ihf (p + 1) many I1 _ (by omega) h1 (by rw [e1]; exact nI_1 p) f1 hk
