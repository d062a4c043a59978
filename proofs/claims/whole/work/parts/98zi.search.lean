/-! THE SEARCH, in the reference. -/
def seS (ba : (Nat → Int64) → Bool) (s : Nat → Int32) (n : Nat) (nu wo sp : Int32) (h j : Nat) (z : Nat × (Nat → Nat) × Int32 × Nat) : Nat × (Nat → Nat) × Int32 × Nat :=
  goS (sv ba s n nu wo sp h (mB s j) (mA s j) (s (56 + 3 * j))) (mA s j) (s (56 + 3 * j)) (z.2.1 (mB s j)) (goS (sv ba s n nu wo sp h (mA s j) (mB s j) (s (56 + 3 * j))) (mB s j) (s (56 + 3 * j)) (z.2.1 (mA s j)) z)
def seL (ba : (Nat → Int64) → Bool) (s : Nat → Int32) (n : Nat) (nu wo sp : Int32) (h : Nat) : List Nat → Nat × (Nat → Nat) × Int32 × Nat → Nat × (Nat → Nat) × Int32 × Nat
  | [], z => z
  | j :: l, z => if s (56 + 3 * j) - sp ≤ s 7 then seL ba s n nu wo sp h l (seS ba s n nu wo sp h j z) else z
def pb0 (p i : Nat) : Nat := if i = p then 0 else 1000000
def se0 (p : Nat) : Nat × (Nat → Nat) × Int32 × Nat := (2 ^ p, pb0 p, -2, 1000000)
def se1 (p : Nat) (fr : Int32) : Nat × (Nat → Nat) × Int32 × Nat := (2 ^ p, pb0 p, fr, 0)
def SE (ba : (Nat → Int64) → Bool) (s : Nat → Int32) (n m : Nat) (nu wo sp fr fe : Int32) (p h g : Nat) : Nat × (Nat → Nat) × Int32 × Nat :=
  if fr - sp ≤ s 7 then seL ba s n nu wo sp h (frL (elP s fr g) (fun k => s (56 + 3 * k)) m).reverse (if hoB ba s n nu wo sp fr fe p h = true then se1 p fr else se0 p) else se0 p
def RF2 (I0 I : Nat → Nat → Int32) : Prop := ∀ p k, ¬ (p = 64 ∨ p = 65) → ¬ (p = 51 ∧ (k = 23 ∨ k = 29 ∨ k = 31 ∨ k = 32 ∨ k = 33)) → I p k = I0 p k
theorem AR.rev {I : Nat → Nat → Int32} {L : List Nat} (h : AR I L) : ∀ j, j < L.reverse.length → I 64 (0 + j) = nI (L.reverse.getD j 0) := by
  intro j hj
  rw [List.length_reverse] at hj
  rw [Nat.zero_add, h j hj, List.getD_eq_getElem?_getD, List.getD_eq_getElem?_getD, List.getElem?_reverse hj]
theorem lp_se {x : Nat × (Nat → Int32)} {d : Nat} {R : Nat → Nat → Option Nat} {G : zG} {I0 : Nat → Nat → Int32} {n m h p g : Nat} {s : Nat → Int32} {fo nu wo sp fr nw : Int32} (hR : Rs R) (hS : Sh G) (hA : RuA I0 R G) (hf : fo = -1 ∨ Rg fo (cl (I0 0 4))) (hs : I0 62 = s) (h6 : s 6 = fo) (hn : s 1 = nI n) (hn8 : n ≤ 8) (hmw : MW s m) (hm24 : m ≤ 24) (h11 : cl (s 0) < 11) (hh : h < 1024) {c : Nat} (hc : I0 51 29 = nI c) (hc24 : c ≤ 24) : ∀ (T : List Nat) (i : Nat) (I : Nat → Nat → Int32) (J : Nat → Nat → Int64) (z : Nat × (Nat → Nat) × Int32 × Nat) (u10 u11 u12 u13 u14 u15 : Value), i + T.length = c → (∀ j, j < T.length → I0 64 (i + j) = nI (T.getD j 0)) → (∀ a, a ∈ T → a < m) → RSt I z → RF I0 I → zOk x (d + 5) 185 131 [.ref 51, .int (nu), .int (wo), .int (nI p), .int (sp), .int (nI h), .int (nw), .int (fr), .int (nI g), .int (nI i), u10, u11, u12, u13, u14, u15] [] (I, J, R, G) (fun v mm => v = none ∧ ∃ I' J', mm = (I', J', R, G) ∧ RSt I' (seL (baB I0 fo) s n nu wo sp h T z) ∧ RF I0 I') := by
  intro T
  induction T with
  | nil =>
    intro i I J z u10 u11 u12 u13 u14 u15 hi hT hm hz hr
    have s62 : I 62 = s := (funext fun k => hr 62 k (by omega) (by omega)).trans hs
    have e29 : I 51 29 = nI c := (hr 51 29 (by omega) (by omega)).trans hc
    have hi : i = c := hi
    refine k_iload f185_131 rfl ?_
    refine k_aload f185_133 rfl ?_
    refine k_gI (w := nI c) f185_134 hS.o51 rfl e29 ?_
    refine k_ic_ge f185_137 (fun _ => ?_) (fun h_ => absurd (nI_le (by omega) (by omega)) h_)
    exact k_vret f185_252 ⟨rfl, I, J, rfl, hz, hr⟩
  | cons j T ih =>
    intro i I J z u10 u11 u12 u13 u14 u15 hi hT hm hz hr
    have s62 : I 62 = s := (funext fun k => hr 62 k (by omega) (by omega)).trans hs
    have e29 : I 51 29 = nI c := (hr 51 29 (by omega) (by omega)).trans hc
    have hi2 : i + (T.length + 1) = c := hi
    have hjm : j < m := hm j List.mem_cons_self
    have ej : I 64 i = nI j := by
      rw [hr 64 i (by omega) (by omega)]
      exact hT 0 (Nat.succ_pos _)
    have hmj := hmw.2.2 j hjm
    have va : s (56 + 3 * j + 1) = nI (mA s j) := hmj.1.1
    have vb : s (56 + 3 * j + 2) = nI (mB s j) := hmj.2.1.1
    have la : mA s j < 10 := by have := hmj.1.2; unfold mA; omega
    have lb : mB s j < 10 := by have := hmj.2.1.2; unfold mB; omega
    by_cases gd : s (56 + 3 * j) - sp ≤ s 7
    · refine k_iload f185_131 rfl ?_
      refine k_aload f185_133 rfl ?_
      refine k_gI (w := nI c) f185_134 hS.o51 rfl e29 ?_
      refine k_ic_ge f185_137 (fun h_ => absurd h_ (nI_ge (by omega) (by omega))) (fun _ => ?_)
      refine k_aload f185_140 rfl ?_
      refine k_getr (q := 64) f185_141 hS.o51 rfl hR.r51_28 ?_
      refine k_iload f185_144 rfl ?_
      refine k_ia (k := i) (w := nI j) f185_146 hS.a64 rfl (by omega) (by decide) ej ?_
      refine k_istore (L' := [.ref 51, .int (nu), .int (wo), .int (nI p), .int (sp), .int (nI h), .int (nw), .int (fr), .int (nI g), .int (nI i), .int (nI j), u11, u12, u13, u14, u15]) f185_147 rfl rfl ?_
      refine k_aload f185_149 rfl ?_
      refine k_iload f185_150 rfl ?_
      refine k_iconst (v := 0) f185_152 rfl ?_
      refine e_v (as := [.int (0), .int (nI j)]) (rest := []) f185_153 hS.o51 rfl rfl rfl (s_meetOf (c := j) (k := 0) (v := s (56 + 3 * j)) hR hS (by omega) (congrFun s62 _)) ?_
      refine k_istore (L' := [.ref 51, .int (nu), .int (wo), .int (nI p), .int (sp), .int (nI h), .int (nw), .int (fr), .int (nI g), .int (nI i), .int (nI j), .int (s (56 + 3 * j)), u12, u13, u14, u15]) f185_156 rfl rfl ?_
      refine k_iload f185_158 rfl ?_
      refine k_iload f185_160 rfl ?_
      refine k_isub f185_162 ?_
      refine k_aload f185_163 rfl ?_
      refine k_getr (q := 62) f185_164 hS.o51 rfl hR.r51_25 ?_
      refine k_iconst (v := 7) f185_167 rfl ?_
      refine k_ia (k := 7) (w := s 7) f185_169 hS.a62 rfl (by decide) (by decide) (congrFun s62 7) ?_
      refine k_ic_le f185_170 (fun _ => ?_) (fun h_ => absurd (gd) h_)
      refine k_aload f185_174 rfl ?_
      refine k_iload f185_175 rfl ?_
      refine k_iconst (v := 1) f185_177 rfl ?_
      refine e_v (as := [.int (1), .int (nI j)]) (rest := []) f185_178 hS.o51 rfl rfl rfl (s_meetOf (c := j) (k := 1) (v := nI (mA s j)) hR hS (by omega) ((congrFun s62 _).trans va)) ?_
      refine k_istore (L' := [.ref 51, .int (nu), .int (wo), .int (nI p), .int (sp), .int (nI h), .int (nw), .int (fr), .int (nI g), .int (nI i), .int (nI j), .int (s (56 + 3 * j)), .int (nI (mA s j)), u13, u14, u15]) f185_181 rfl rfl ?_
      refine k_aload f185_183 rfl ?_
      refine k_iload f185_184 rfl ?_
      refine k_iconst (v := 2) f185_186 rfl ?_
      refine e_v (as := [.int (2), .int (nI j)]) (rest := []) f185_187 hS.o51 rfl rfl rfl (s_meetOf (c := j) (k := 2) (v := nI (mB s j)) hR hS (by omega) ((congrFun s62 _).trans vb)) ?_
      refine k_istore (L' := [.ref 51, .int (nu), .int (wo), .int (nI p), .int (sp), .int (nI h), .int (nw), .int (fr), .int (nI g), .int (nI i), .int (nI j), .int (s (56 + 3 * j)), .int (nI (mA s j)), .int (nI (mB s j)), u14, u15]) f185_190 rfl rfl ?_
      refine k_aload f185_192 rfl ?_
      refine k_getr (q := 65) f185_193 hS.o51 rfl hR.r51_30 ?_
      refine k_iload f185_196 rfl ?_
      refine k_ia (k := (mA s j)) (w := nI (z.2.1 (mA s j))) f185_198 hS.a65 rfl (by omega) (by decide) (hz.2.2.1 _ la).1 ?_
      refine k_istore (L' := [.ref 51, .int (nu), .int (wo), .int (nI p), .int (sp), .int (nI h), .int (nw), .int (fr), .int (nI g), .int (nI i), .int (nI j), .int (s (56 + 3 * j)), .int (nI (mA s j)), .int (nI (mB s j)), .int (nI (z.2.1 (mA s j))), u15]) f185_199 rfl rfl ?_
      refine k_aload f185_201 rfl ?_
      refine k_getr (q := 65) f185_202 hS.o51 rfl hR.r51_30 ?_
      refine k_iload f185_205 rfl ?_
      refine k_ia (k := (mB s j)) (w := nI (z.2.1 (mB s j))) f185_207 hS.a65 rfl (by omega) (by decide) (hz.2.2.1 _ lb).1 ?_
      refine k_istore (L' := [.ref 51, .int (nu), .int (wo), .int (nI p), .int (sp), .int (nI h), .int (nw), .int (fr), .int (nI g), .int (nI i), .int (nI j), .int (s (56 + 3 * j)), .int (nI (mA s j)), .int (nI (mB s j)), .int (nI (z.2.1 (mA s j))), .int (nI (z.2.1 (mB s j)))]) f185_208 rfl rfl ?_
      refine k_aload f185_210 rfl ?_
      refine k_iload f185_211 rfl ?_
      refine k_iload f185_212 rfl ?_
      refine k_iload f185_213 rfl ?_
      refine k_iload f185_215 rfl ?_
      refine k_iload f185_217 rfl ?_
      refine k_iload f185_219 rfl ?_
      refine k_iload f185_221 rfl ?_
      refine k_iload f185_223 rfl ?_
      refine k_callv (as := [.int (s (56 + 3 * j)), .int (nI (z.2.1 (mA s j))), .int (nI (mB s j)), .int (nI (mA s j)), .int (nI h), .int (sp), .int (wo), .int (nu)]) (rest := []) f185_225 hS.o51 rfl rfl rfl rfl (q_goes (a := (mA s j)) (b := (mB s j)) (pd := (z.2.1 (mA s j))) (th := s (56 + 3 * j)) hR hS hA hf hs h6 hn hn8 hh lb (hz.2.2.1 _ la).2 hz hr) ?_
      rintro _ _ ⟨rfl, I1, J1, rfl, hz1, hr1⟩
      refine k_aload f185_228 rfl ?_
      refine k_iload f185_229 rfl ?_
      refine k_iload f185_230 rfl ?_
      refine k_iload f185_231 rfl ?_
      refine k_iload f185_233 rfl ?_
      refine k_iload f185_235 rfl ?_
      refine k_iload f185_237 rfl ?_
      refine k_iload f185_239 rfl ?_
      refine k_iload f185_241 rfl ?_
      refine k_callv (as := [.int (s (56 + 3 * j)), .int (nI (z.2.1 (mB s j))), .int (nI (mA s j)), .int (nI (mB s j)), .int (nI h), .int (sp), .int (wo), .int (nu)]) (rest := []) f185_243 hS.o51 rfl rfl rfl rfl (q_goes (a := (mB s j)) (b := (mA s j)) (pd := (z.2.1 (mB s j))) (th := s (56 + 3 * j)) hR hS hA hf hs h6 hn hn8 hh la (hz.2.2.1 _ lb).2 hz1 hr1) ?_
      rintro _ _ ⟨rfl, I2, J2, rfl, hz2, hr2⟩
      refine k_iinc (w := nI (i + 1)) (L' := [.ref 51, .int (nu), .int (wo), .int (nI p), .int (sp), .int (nI h), .int (nw), .int (fr), .int (nI g), .int (nI (i + 1)), .int (nI j), .int (s (56 + 3 * j)), .int (nI (mA s j)), .int (nI (mB s j)), .int (nI (z.2.1 (mA s j))), .int (nI (z.2.1 (mB s j)))]) f185_246 rfl (nI_1 i) rfl rfl ?_
      refine k_goto f185_249 ?_
      rw [show seL (baB I0 fo) s n nu wo sp h (j :: T) z = seL (baB I0 fo) s n nu wo sp h T (seS (baB I0 fo) s n nu wo sp h j z) from if_pos gd]
      exact ih (i + 1) I2 J2 (seS (baB I0 fo) s n nu wo sp h j z) _ _ _ _ _ _ (by omega) (fun k hk => by have := hT (k + 1) (Nat.succ_lt_succ hk); rw [show i + 1 + k = i + (k + 1) by omega]; exact this) (fun a ha => hm a (List.mem_cons_of_mem _ ha)) hz2 hr2
    · refine k_iload f185_131 rfl ?_
      refine k_aload f185_133 rfl ?_
      refine k_gI (w := nI c) f185_134 hS.o51 rfl e29 ?_
      refine k_ic_ge f185_137 (fun h_ => absurd h_ (nI_ge (by omega) (by omega))) (fun _ => ?_)
      refine k_aload f185_140 rfl ?_
      refine k_getr (q := 64) f185_141 hS.o51 rfl hR.r51_28 ?_
      refine k_iload f185_144 rfl ?_
      refine k_ia (k := i) (w := nI j) f185_146 hS.a64 rfl (by omega) (by decide) ej ?_
      refine k_istore (L' := [.ref 51, .int (nu), .int (wo), .int (nI p), .int (sp), .int (nI h), .int (nw), .int (fr), .int (nI g), .int (nI i), .int (nI j), u11, u12, u13, u14, u15]) f185_147 rfl rfl ?_
      refine k_aload f185_149 rfl ?_
      refine k_iload f185_150 rfl ?_
      refine k_iconst (v := 0) f185_152 rfl ?_
      refine e_v (as := [.int (0), .int (nI j)]) (rest := []) f185_153 hS.o51 rfl rfl rfl (s_meetOf (c := j) (k := 0) (v := s (56 + 3 * j)) hR hS (by omega) (congrFun s62 _)) ?_
      refine k_istore (L' := [.ref 51, .int (nu), .int (wo), .int (nI p), .int (sp), .int (nI h), .int (nw), .int (fr), .int (nI g), .int (nI i), .int (nI j), .int (s (56 + 3 * j)), u12, u13, u14, u15]) f185_156 rfl rfl ?_
      refine k_iload f185_158 rfl ?_
      refine k_iload f185_160 rfl ?_
      refine k_isub f185_162 ?_
      refine k_aload f185_163 rfl ?_
      refine k_getr (q := 62) f185_164 hS.o51 rfl hR.r51_25 ?_
      refine k_iconst (v := 7) f185_167 rfl ?_
      refine k_ia (k := 7) (w := s 7) f185_169 hS.a62 rfl (by decide) (by decide) (congrFun s62 7) ?_
      refine k_ic_le f185_170 (fun h_ => absurd h_ (gd)) (fun _ => ?_)
      exact k_vret f185_173 ⟨rfl, I, J, rfl, by rw [show seL (baB I0 fo) s n nu wo sp h (j :: T) z = z from if_neg gd]; exact hz, hr⟩
theorem lp_pb {x : Nat × (Nat → Int32)} {d : Nat} {R : Nat → Nat → Option Nat} {G : zG} {I0 : Nat → Nat → Int32} {J : Nat → Nat → Int64} {h g : Nat} {nu wo sp fr nw : Int32} {Q : Option Value → zM → Prop} {p : Nat} (hR : Rs R) (hS : Sh G) (hp : p < 10) (hk : ∀ I' u9, (∀ k, k < 10 → I' 65 k = nI (pb0 p k)) → (∀ q k, q ≠ 65 → I' q k = I0 q k) → zOk x d 185 56 [.ref 51, .int (nu), .int (wo), .int (nI p), .int (sp), .int (nI h), .int (nw), .int (fr), .int (nI g), u9, zU, zU, zU, zU, zU, zU] [] (I', J, R, G) Q) : ∀ (f i : Nat) (I : Nat → Nat → Int32), i + f = 10 → (∀ k, k < i → I 65 k = nI (pb0 p k)) → (∀ q k, q ≠ 65 → I q k = I0 q k) → zOk x d 185 23 [.ref 51, .int (nu), .int (wo), .int (nI p), .int (sp), .int (nI h), .int (nw), .int (fr), .int (nI g), .int (nI i), zU, zU, zU, zU, zU, zU] [] (I, J, R, G) Q := by
  intro f
  induction f with
  | zero =>
    intro i I hi hb hfr
    have hi : i = 10 := by omega
    subst hi
    refine k_iload f185_23 rfl ?_
    refine k_iconst (v := 10) f185_25 rfl ?_
    refine k_ic_ge f185_27 (fun _ => ?_) (fun h_ => absurd (by decide) h_)
    exact hk I _ hb hfr
  | succ f ih =>
    intro i I hi hb hfr
    by_cases e : i = p
    · refine k_iload f185_23 rfl ?_
      refine k_iconst (v := 10) f185_25 rfl ?_
      refine k_ic_ge f185_27 (fun h_ => absurd h_ (nI_ge (b := 10) (by omega) (by omega))) (fun _ => ?_)
      refine k_aload f185_30 rfl ?_
      refine k_getr (q := 65) f185_31 hS.o51 rfl hR.r51_30 ?_
      refine k_iload f185_34 rfl ?_
      refine k_iload f185_36 rfl ?_
      refine k_iload f185_38 rfl ?_
      refine k_ic_ne f185_39 (fun h_ => absurd (congrArg nI e) h_) (fun _ => ?_)
      refine k_iconst (v := 0) f185_42 rfl ?_
      refine k_goto f185_43 ?_
      refine k_is (k := i) f185_49 hS.a65 rfl (by omega) (by decide) ?_
      refine k_iinc (w := nI (i + 1)) (L' := [.ref 51, .int (nu), .int (wo), .int (nI p), .int (sp), .int (nI h), .int (nw), .int (fr), .int (nI g), .int (nI (i + 1)), zU, zU, zU, zU, zU, zU]) f185_50 rfl (nI_1 i) rfl rfl ?_
      refine k_goto f185_53 ?_
      refine ih (i + 1) _ (by omega) (fun k hk2 => ?_) (fun q k hq => (z_u_p _ _ _ _ hq).trans (hfr q k hq))
      by_cases ek : k = i
      · subst ek
        rw [z_u_same, pb0, if_pos e]
        rfl
      · rw [z_u_k _ _ _ ek]
        exact hb k (by omega)
    · refine k_iload f185_23 rfl ?_
      refine k_iconst (v := 10) f185_25 rfl ?_
      refine k_ic_ge f185_27 (fun h_ => absurd h_ (nI_ge (b := 10) (by omega) (by omega))) (fun _ => ?_)
      refine k_aload f185_30 rfl ?_
      refine k_getr (q := 65) f185_31 hS.o51 rfl hR.r51_30 ?_
      refine k_iload f185_34 rfl ?_
      refine k_iload f185_36 rfl ?_
      refine k_iload f185_38 rfl ?_
      refine k_ic_ne f185_39 (fun _ => ?_) (fun h_ => absurd ((fun q => e ((nI_eq (by omega) (by omega)).mp q))) h_)
      refine k_iconst (v := 1000000) f185_46 rfl ?_
      refine k_is (k := i) f185_49 hS.a65 rfl (by omega) (by decide) ?_
      refine k_iinc (w := nI (i + 1)) (L' := [.ref 51, .int (nu), .int (wo), .int (nI p), .int (sp), .int (nI h), .int (nw), .int (fr), .int (nI g), .int (nI (i + 1)), zU, zU, zU, zU, zU, zU]) f185_50 rfl (nI_1 i) rfl rfl ?_
      refine k_goto f185_53 ?_
      refine ih (i + 1) _ (by omega) (fun k hk2 => ?_) (fun q k hq => (z_u_p _ _ _ _ hq).trans (hfr q k hq))
      by_cases ek : k = i
      · subst ek
        rw [z_u_same, pb0, if_neg e]
        rfl
      · rw [z_u_k _ _ _ ek]
        exact hb k (by omega)
