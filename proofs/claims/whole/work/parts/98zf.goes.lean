/-! A STEP of the search, in the reference. -/
def upN (f : Nat → Nat) (k v : Nat) : Nat → Nat := fun j => if j = k then v else f j
/-- who could have it, paid by how many, the day home, the fewest -/
def goS (v b : Nat) (th : Int32) (pd : Nat) (z : Nat × (Nat → Nat) × Int32 × Nat) : Nat × (Nat → Nat) × Int32 × Nat :=
  if pd = 1000000 then z else if v = 1 then (z.1 ||| 2 ^ b, upN z.2.1 b (if z.2.1 b ≤ pd + 1 then z.2.1 b else pd + 1), z.2.2) else
  if v = 2 then (z.1, z.2.1, if 0 ≤ z.2.2.1 then z.2.2.1 else th, if z.2.2.2 ≤ pd + 1 then z.2.2.2 else pd + 1) else z
def RSt (I : Nat → Nat → Int32) (z : Nat × (Nat → Nat) × Int32 × Nat) : Prop := I 51 31 = nI z.1 ∧ z.1 < 1024 ∧ (∀ p, p < 10 → I 65 p = nI (z.2.1 p) ∧ z.2.1 p ≤ 1000000) ∧ I 51 32 = z.2.2.1 ∧ I 51 33 = nI z.2.2.2 ∧ z.2.2.2 ≤ 1000000
def RF (I0 I : Nat → Nat → Int32) : Prop := ∀ p k, p ≠ 65 → ¬ (p = 51 ∧ (k = 23 ∨ k = 31 ∨ k = 32 ∨ k = 33)) → I p k = I0 p k
theorem RF.kr {I0 I : Nat → Nat → Int32} (h : RF I0 I) : Kr I0 I := fun p k hp => h p k (by omega) (by omega)
theorem RSt.sc {I I' : Nat → Nat → Int32} {z : Nat × (Nat → Nat) × Int32 × Nat} (h : RSt I z) (hi : ∀ p k, ¬ (p = 51 ∧ k = 23) → I' p k = I p k) : RSt I' z := by
  unfold RSt at h ⊢
  rw [hi _ _ (by omega), hi 51 32 (by omega), hi 51 33 (by omega)]
  refine ⟨h.1, h.2.1, fun p hp => ?_, h.2.2.2⟩
  rw [hi _ _ (by omega)]
  exact h.2.2.1 p hp
theorem RF.sc {I0 I I' : Nat → Nat → Int32} (h : RF I0 I) (hi : ∀ p k, ¬ (p = 51 ∧ k = 23) → I' p k = I p k) : RF I0 I' := fun p k h1 h2 => (hi p k (by omega)).trans (h p k h1 h2)
theorem RSt.hand {I : Nat → Nat → Int32} {z : Nat × (Nat → Nat) × Int32 × Nat} {b w : Nat} (h : RSt I z) (hb : b < 10) (hw : w ≤ 1000000) : RSt (z_u (z_u I 51 31 ((nI z.1) ||| ((1) <<< ((nI b) &&& 31)))) 65 b (nI w)) (z.1 ||| 2 ^ b, upN z.2.1 b w, z.2.2) := by
  obtain ⟨h1, h2, h3, h4, h5, h6⟩ := h
  refine ⟨?_, or_lt h2 (Nat.lt_of_lt_of_le (Nat.pow_lt_pow_right (by omega) hb) (Nat.le_refl _)), fun p hp => ?_, ?_, ?_, h6⟩
  · rw [z_u_p _ _ _ _ (by omega), z_u_same, sh_1 b (by omega), nI_or]
  · show _ = nI (upN z.2.1 b w p) ∧ upN z.2.1 b w p ≤ 1000000
    unfold upN
    by_cases e : p = b
    · subst e
      rw [z_u_same, if_pos rfl]
      exact ⟨rfl, hw⟩
    · rw [z_u_k _ _ _ e, if_neg e, z_u_p _ _ _ _ (by omega)]
      exact h3 p hp
  · rw [z_u_p _ _ _ _ (by omega), z_u_k _ _ _ (by omega)]; exact h4
  · rw [z_u_p _ _ _ _ (by omega), z_u_k _ _ _ (by omega)]; exact h5
theorem RSt.home {I : Nat → Nat → Int32} {z : Nat × (Nat → Nat) × Int32 × Nat} {w : Nat} {t : Int32} (h : RSt I z) (hw : w ≤ 1000000) : RSt (z_u (z_u I 51 32 t) 51 33 (nI w)) (z.1, z.2.1, t, w) := by
  obtain ⟨h1, h2, h3, h4, h5, h6⟩ := h
  refine ⟨?_, h2, fun p hp => ?_, ?_, z_u_same _ _ _ _, hw⟩
  · rw [z_u_k _ _ _ (by omega), z_u_k _ _ _ (by omega)]; exact h1
  · rw [z_u_p _ _ _ _ (by omega), z_u_p _ _ _ _ (by omega)]; exact h3 p hp
  · rw [z_u_k _ _ _ (by omega), z_u_same]
theorem q_goes {x : Nat × (Nat → Int32)} {d : Nat} {I : Nat → Nat → Int32} {J : Nat → Nat → Int64} {R : Nat → Nat → Option Nat} {G : zG} {n h a b pd : Nat} {s : Nat → Int32} {fo nu wo sp th : Int32} {I0 : Nat → Nat → Int32} {z : Nat × (Nat → Nat) × Int32 × Nat} (hR : Rs R) (hS : Sh G) (hA : RuA I0 R G) (hf : fo = -1 ∨ Rg fo (cl (I0 0 4))) (hs : I0 62 = s) (h6 : s 6 = fo) (hn : s 1 = nI n) (hn8 : n ≤ 8) (hh : h < 1024) (hb : b < 10) (hpd : pd ≤ 1000000) (hz : RSt I z) (hr : RF I0 I) : zOk x (d + 4) 184 0 [.ref 51, .int (nu), .int (wo), .int (sp), .int (nI h), .int (nI a), .int (nI b), .int (nI pd), .int (th)] [] (I, J, R, G) (fun v mm => v = none ∧ ∃ I' J', mm = (I', J', R, G) ∧ RSt I' (goS (sv (baB I0 fo) s n nu wo sp h a b th) b th pd z) ∧ RF I0 I') := by
  have s62 : I 62 = s := (funext fun k => hr 62 k (by omega) (by omega)).trans hs
  have kr := hr.kr
  have hhb : h ||| 2 ^ b < 1024 := or_lt hh (Nat.lt_of_lt_of_le (Nat.pow_lt_pow_right (by omega) hb) (Nat.le_refl _))
  have ehb : (nI h) ||| ((1) <<< ((nI b) &&& 31)) = nI (h ||| 2 ^ b) := by rw [sh_1 b (by omega), nI_or]
  by_cases nv : pd = 1000000
  · refine k_iload f184_0 rfl ?_
    refine k_iconst (v := 1000000) f184_2 rfl ?_
    refine k_ic_ne f184_5 (fun h_ => absurd (congrArg nI nv) h_) (fun _ => ?_)
    exact k_vret f184_8 ⟨rfl, I, J, rfl, by unfold goS; rw [if_pos nv]; exact hz, hr⟩
  · have nv2 : ¬ nI pd = 1000000 := fun q => nv ((nI_eq (b := 1000000) (by omega) (by omega)).mp q)
    by_cases tb : h.testBit b = true
    · by_cases b1 : baB I0 fo (gW s n nu wo (th - sp) h (¬ h.testBit b = true) (nI a) (nI b) th) = true
      · refine k_iload f184_0 rfl ?_
        refine k_iconst (v := 1000000) f184_2 rfl ?_
        refine k_ic_ne f184_5 (fun _ => ?_) (fun h_ => absurd (nv2) h_)
        refine k_aload f184_9 rfl ?_
        refine k_iload f184_10 rfl ?_
        refine k_iload f184_11 rfl ?_
        refine k_iload f184_12 rfl ?_
        refine k_iload f184_14 rfl ?_
        refine k_isub f184_15 ?_
        refine k_iload f184_16 rfl ?_
        refine k_iload f184_18 rfl ?_
        refine k_iload f184_20 rfl ?_
        refine e_s (as := [.int (nI b), .int (nI h)]) (rest := [.int (nI h), .int ((th) - (sp)), .int (wo), .int (nu), .ref 51]) f184_22 rfl rfl rfl (s_isOf (b := h) (p := b) (by omega) (by omega)) ?_
        refine k_bne f184_25 (fun _ => ?_) (fun h_ => absurd (tb) h_)
        refine k_iconst (v := 0) f184_32 rfl ?_
        refine k_iload f184_33 rfl ?_
        refine k_iload f184_35 rfl ?_
        refine k_iload f184_37 rfl ?_
        refine k_callv (as := [.int (th), .int (nI b), .int (nI a), .int (0), .int (nI h), .int ((th) - (sp)), .int (wo), .int (nu)]) (rest := []) f184_39 hS.o51 rfl rfl rfl rfl (q_words (h := h) (S := False) hR hS s62 hn hn8 hh) ?_
        rintro _ _ ⟨rfl, J1, rfl, hJ1⟩
        refine k_aload f184_42 rfl ?_
        refine k_aload f184_43 rfl ?_
        refine k_getr (q := 62) f184_44 hS.o51 rfl hR.r51_25 ?_
        refine k_iconst (v := 6) f184_47 rfl ?_
        refine k_ia (k := 6) (w := fo) f184_49 hS.a62 rfl (by decide) (by decide) ((congrFun s62 6).trans h6) ?_
        refine k_callv (as := [.int (fo)]) (rest := []) f184_50 hS.o51 rfl rfl rfl rfl (q_barred (f := fo) (w := gW s n nu wo (th - sp) h (¬ h.testBit b = true) (nI a) (nI b) th) hR hS (hA.kr kr) (by rw [kr 0 4 (by omega)]; exact hf) (fun j h9 => (hJ1 j h9).trans (congrFun (gW_S ⟨fun k => k.elim, fun k => k tb⟩) _))) ?_
        rintro _ _ ⟨rfl, I2, J2, rfl, hI2, _⟩
        have hz2 := hz.sc hI2
        have hr2 := hr.sc hI2
        have s62b : I2 62 = s := (funext fun k => hI2 62 k (by omega)).trans s62
        have kr2 := hr2.kr
        rw [baB_kr kr]
        refine k_beq f184_53 (fun h_ => absurd (b1) h_) (fun _ => ?_)
        exact k_vret f184_56 ⟨rfl, I2, J2, rfl, by unfold goS; rw [show sv (baB I0 fo) s n nu wo sp h a b th = 0 from by unfold sv; rw [if_pos b1], if_neg nv, if_neg (by decide), if_neg (by decide)]; exact hz2, hr2⟩
      · refine k_iload f184_0 rfl ?_
        refine k_iconst (v := 1000000) f184_2 rfl ?_
        refine k_ic_ne f184_5 (fun _ => ?_) (fun h_ => absurd (nv2) h_)
        refine k_aload f184_9 rfl ?_
        refine k_iload f184_10 rfl ?_
        refine k_iload f184_11 rfl ?_
        refine k_iload f184_12 rfl ?_
        refine k_iload f184_14 rfl ?_
        refine k_isub f184_15 ?_
        refine k_iload f184_16 rfl ?_
        refine k_iload f184_18 rfl ?_
        refine k_iload f184_20 rfl ?_
        refine e_s (as := [.int (nI b), .int (nI h)]) (rest := [.int (nI h), .int ((th) - (sp)), .int (wo), .int (nu), .ref 51]) f184_22 rfl rfl rfl (s_isOf (b := h) (p := b) (by omega) (by omega)) ?_
        refine k_bne f184_25 (fun _ => ?_) (fun h_ => absurd (tb) h_)
        refine k_iconst (v := 0) f184_32 rfl ?_
        refine k_iload f184_33 rfl ?_
        refine k_iload f184_35 rfl ?_
        refine k_iload f184_37 rfl ?_
        refine k_callv (as := [.int (th), .int (nI b), .int (nI a), .int (0), .int (nI h), .int ((th) - (sp)), .int (wo), .int (nu)]) (rest := []) f184_39 hS.o51 rfl rfl rfl rfl (q_words (h := h) (S := False) hR hS s62 hn hn8 hh) ?_
        rintro _ _ ⟨rfl, J1, rfl, hJ1⟩
        refine k_aload f184_42 rfl ?_
        refine k_aload f184_43 rfl ?_
        refine k_getr (q := 62) f184_44 hS.o51 rfl hR.r51_25 ?_
        refine k_iconst (v := 6) f184_47 rfl ?_
        refine k_ia (k := 6) (w := fo) f184_49 hS.a62 rfl (by decide) (by decide) ((congrFun s62 6).trans h6) ?_
        refine k_callv (as := [.int (fo)]) (rest := []) f184_50 hS.o51 rfl rfl rfl rfl (q_barred (f := fo) (w := gW s n nu wo (th - sp) h (¬ h.testBit b = true) (nI a) (nI b) th) hR hS (hA.kr kr) (by rw [kr 0 4 (by omega)]; exact hf) (fun j h9 => (hJ1 j h9).trans (congrFun (gW_S ⟨fun k => k.elim, fun k => k tb⟩) _))) ?_
        rintro _ _ ⟨rfl, I2, J2, rfl, hI2, _⟩
        have hz2 := hz.sc hI2
        have hr2 := hr.sc hI2
        have s62b : I2 62 = s := (funext fun k => hI2 62 k (by omega)).trans s62
        have kr2 := hr2.kr
        rw [baB_kr kr]
        refine k_beq f184_53 (fun _ => ?_) (fun h_ => (absurd h_ (b1)))
        refine k_iload f184_57 rfl ?_
        refine k_iload f184_59 rfl ?_
        refine e_s (as := [.int (nI b), .int (nI h)]) (rest := []) f184_61 rfl rfl rfl (s_isOf (b := h) (p := b) (by omega) (by omega)) ?_
        refine k_beq f184_64 (fun h_ => absurd (tb) h_) (fun _ => ?_)
        refine k_aload f184_67 rfl ?_
        refine k_dup f184_68 ?_
        refine k_gI (w := nI z.1) f184_69 hS.o51 rfl hz2.1 ?_
        refine k_iconst (v := 1) f184_72 rfl ?_
        refine k_iload f184_73 rfl ?_
        refine k_ishl f184_75 ?_
        refine k_ior f184_76 ?_
        refine k_putI f184_77 hS.o51 rfl ?_
        refine k_aload f184_80 rfl ?_
        refine k_getr (q := 65) f184_81 hS.o51 rfl hR.r51_30 ?_
        refine k_iload f184_84 rfl ?_
        refine k_iload f184_86 rfl ?_
        refine k_iconst (v := 1) f184_88 rfl ?_
        refine k_iadd f184_89 ?_
        rw [nI_1 pd]
        refine k_aload f184_90 rfl ?_
        refine k_getr (q := 65) f184_91 hS.o51 rfl hR.r51_30 ?_
        refine k_iload f184_94 rfl ?_
        refine k_ia (k := b) (w := nI (z.2.1 b)) f184_96 hS.a65 rfl (by omega) (by decide) (Eq.trans (z_u_p _ _ _ _ (by decide)) (hz2.2.2.1 b hb).1) ?_
        refine k_ic_ge f184_97 (fun g0 => ?_) (fun g0 => ?_)
        · refine k_aload f184_107 rfl ?_
          refine k_getr (q := 65) f184_108 hS.o51 rfl hR.r51_30 ?_
          refine k_iload f184_111 rfl ?_
          refine k_ia (k := b) (w := nI (z.2.1 b)) f184_113 hS.a65 rfl (by omega) (by decide) (Eq.trans (z_u_p _ _ _ _ (by decide)) (hz2.2.2.1 b hb).1) ?_
          refine k_is (k := b) f184_114 hS.a65 rfl (by omega) (by decide) ?_
          exact k_vret f184_115 ⟨rfl, _, J2, rfl, by unfold goS; rw [show sv (baB I0 fo) s n nu wo sp h a b th = 1 from by unfold sv; rw [if_neg b1, if_pos tb], if_neg nv, if_pos rfl, if_pos ((nI_leI (by have := (hz2.2.2.1 b hb).2; omega) (by omega)).mp g0)]; exact hz2.hand hb (hz2.2.2.1 b hb).2, fun p k g1 g2 => by rw [z_u_no _ _ (by omega), z_u_no _ _ (by omega)]; exact hr2 p k g1 g2⟩
        · refine k_iload f184_100 rfl ?_
          refine k_iconst (v := 1) f184_102 rfl ?_
          refine k_iadd f184_103 ?_
          rw [nI_1 pd]
          refine k_goto f184_104 ?_
          refine k_is (k := b) f184_114 hS.a65 rfl (by omega) (by decide) ?_
          exact k_vret f184_115 ⟨rfl, _, J2, rfl, by unfold goS; rw [show sv (baB I0 fo) s n nu wo sp h a b th = 1 from by unfold sv; rw [if_neg b1, if_pos tb], if_neg nv, if_pos rfl, if_neg (fun q => g0 ((nI_leI (by have := (hz2.2.2.1 b hb).2; omega) (by omega)).mpr q))]; exact hz2.hand hb (by omega), fun p k g1 g2 => by rw [z_u_no _ _ (by omega), z_u_no _ _ (by omega)]; exact hr2 p k g1 g2⟩
    · by_cases b1 : baB I0 fo (gW s n nu wo (th - sp) h (¬ h.testBit b = true) (nI a) (nI b) th) = true
      · refine k_iload f184_0 rfl ?_
        refine k_iconst (v := 1000000) f184_2 rfl ?_
        refine k_ic_ne f184_5 (fun _ => ?_) (fun h_ => absurd (nv2) h_)
        refine k_aload f184_9 rfl ?_
        refine k_iload f184_10 rfl ?_
        refine k_iload f184_11 rfl ?_
        refine k_iload f184_12 rfl ?_
        refine k_iload f184_14 rfl ?_
        refine k_isub f184_15 ?_
        refine k_iload f184_16 rfl ?_
        refine k_iload f184_18 rfl ?_
        refine k_iload f184_20 rfl ?_
        refine e_s (as := [.int (nI b), .int (nI h)]) (rest := [.int (nI h), .int ((th) - (sp)), .int (wo), .int (nu), .ref 51]) f184_22 rfl rfl rfl (s_isOf (b := h) (p := b) (by omega) (by omega)) ?_
        refine k_bne f184_25 (fun h_ => absurd h_ (tb)) (fun _ => ?_)
        refine k_iconst (v := 1) f184_28 rfl ?_
        refine k_goto f184_29 ?_
        refine k_iload f184_33 rfl ?_
        refine k_iload f184_35 rfl ?_
        refine k_iload f184_37 rfl ?_
        refine k_callv (as := [.int (th), .int (nI b), .int (nI a), .int (1), .int (nI h), .int ((th) - (sp)), .int (wo), .int (nu)]) (rest := []) f184_39 hS.o51 rfl rfl rfl rfl (q_words (h := h) (S := True) hR hS s62 hn hn8 hh) ?_
        rintro _ _ ⟨rfl, J1, rfl, hJ1⟩
        refine k_aload f184_42 rfl ?_
        refine k_aload f184_43 rfl ?_
        refine k_getr (q := 62) f184_44 hS.o51 rfl hR.r51_25 ?_
        refine k_iconst (v := 6) f184_47 rfl ?_
        refine k_ia (k := 6) (w := fo) f184_49 hS.a62 rfl (by decide) (by decide) ((congrFun s62 6).trans h6) ?_
        refine k_callv (as := [.int (fo)]) (rest := []) f184_50 hS.o51 rfl rfl rfl rfl (q_barred (f := fo) (w := gW s n nu wo (th - sp) h (¬ h.testBit b = true) (nI a) (nI b) th) hR hS (hA.kr kr) (by rw [kr 0 4 (by omega)]; exact hf) (fun j h9 => (hJ1 j h9).trans (congrFun (gW_S ⟨fun _ => tb, fun _ => trivial⟩) _))) ?_
        rintro _ _ ⟨rfl, I2, J2, rfl, hI2, _⟩
        have hz2 := hz.sc hI2
        have hr2 := hr.sc hI2
        have s62b : I2 62 = s := (funext fun k => hI2 62 k (by omega)).trans s62
        have kr2 := hr2.kr
        rw [baB_kr kr]
        refine k_beq f184_53 (fun h_ => absurd (b1) h_) (fun _ => ?_)
        exact k_vret f184_56 ⟨rfl, I2, J2, rfl, by unfold goS; rw [show sv (baB I0 fo) s n nu wo sp h a b th = 0 from by unfold sv; rw [if_pos b1], if_neg nv, if_neg (by decide), if_neg (by decide)]; exact hz2, hr2⟩
      · by_cases b2 : baB I0 fo (gW s n nu wo (th - sp) (h ||| 2 ^ b) True (nI b) (nI b) th) = true
        · refine k_iload f184_0 rfl ?_
          refine k_iconst (v := 1000000) f184_2 rfl ?_
          refine k_ic_ne f184_5 (fun _ => ?_) (fun h_ => absurd (nv2) h_)
          refine k_aload f184_9 rfl ?_
          refine k_iload f184_10 rfl ?_
          refine k_iload f184_11 rfl ?_
          refine k_iload f184_12 rfl ?_
          refine k_iload f184_14 rfl ?_
          refine k_isub f184_15 ?_
          refine k_iload f184_16 rfl ?_
          refine k_iload f184_18 rfl ?_
          refine k_iload f184_20 rfl ?_
          refine e_s (as := [.int (nI b), .int (nI h)]) (rest := [.int (nI h), .int ((th) - (sp)), .int (wo), .int (nu), .ref 51]) f184_22 rfl rfl rfl (s_isOf (b := h) (p := b) (by omega) (by omega)) ?_
          refine k_bne f184_25 (fun h_ => absurd h_ (tb)) (fun _ => ?_)
          refine k_iconst (v := 1) f184_28 rfl ?_
          refine k_goto f184_29 ?_
          refine k_iload f184_33 rfl ?_
          refine k_iload f184_35 rfl ?_
          refine k_iload f184_37 rfl ?_
          refine k_callv (as := [.int (th), .int (nI b), .int (nI a), .int (1), .int (nI h), .int ((th) - (sp)), .int (wo), .int (nu)]) (rest := []) f184_39 hS.o51 rfl rfl rfl rfl (q_words (h := h) (S := True) hR hS s62 hn hn8 hh) ?_
          rintro _ _ ⟨rfl, J1, rfl, hJ1⟩
          refine k_aload f184_42 rfl ?_
          refine k_aload f184_43 rfl ?_
          refine k_getr (q := 62) f184_44 hS.o51 rfl hR.r51_25 ?_
          refine k_iconst (v := 6) f184_47 rfl ?_
          refine k_ia (k := 6) (w := fo) f184_49 hS.a62 rfl (by decide) (by decide) ((congrFun s62 6).trans h6) ?_
          refine k_callv (as := [.int (fo)]) (rest := []) f184_50 hS.o51 rfl rfl rfl rfl (q_barred (f := fo) (w := gW s n nu wo (th - sp) h (¬ h.testBit b = true) (nI a) (nI b) th) hR hS (hA.kr kr) (by rw [kr 0 4 (by omega)]; exact hf) (fun j h9 => (hJ1 j h9).trans (congrFun (gW_S ⟨fun _ => tb, fun _ => trivial⟩) _))) ?_
          rintro _ _ ⟨rfl, I2, J2, rfl, hI2, _⟩
          have hz2 := hz.sc hI2
          have hr2 := hr.sc hI2
          have s62b : I2 62 = s := (funext fun k => hI2 62 k (by omega)).trans s62
          have kr2 := hr2.kr
          rw [baB_kr kr]
          refine k_beq f184_53 (fun _ => ?_) (fun h_ => (absurd h_ (b1)))
          refine k_iload f184_57 rfl ?_
          refine k_iload f184_59 rfl ?_
          refine e_s (as := [.int (nI b), .int (nI h)]) (rest := []) f184_61 rfl rfl rfl (s_isOf (b := h) (p := b) (by omega) (by omega)) ?_
          refine k_beq f184_64 (fun _ => ?_) (fun h_ => (absurd h_ (tb)))
          refine k_aload f184_116 rfl ?_
          refine k_iload f184_117 rfl ?_
          refine k_iload f184_118 rfl ?_
          refine k_iload f184_119 rfl ?_
          refine k_iload f184_121 rfl ?_
          refine k_isub f184_122 ?_
          refine k_iload f184_123 rfl ?_
          refine k_iconst (v := 1) f184_125 rfl ?_
          refine k_iload f184_126 rfl ?_
          refine k_ishl f184_128 ?_
          refine k_ior f184_129 ?_
          rw [ehb]
          refine k_iconst (v := 1) f184_130 rfl ?_
          refine k_iload f184_131 rfl ?_
          refine k_iload f184_133 rfl ?_
          refine k_iload f184_135 rfl ?_
          refine k_callv (as := [.int (th), .int (nI b), .int (nI b), .int (1), .int (nI (h ||| 2 ^ b)), .int ((th) - (sp)), .int (wo), .int (nu)]) (rest := []) f184_137 hS.o51 rfl rfl rfl rfl (q_words (h := h ||| 2 ^ b) (S := True) hR hS s62b hn hn8 hhb) ?_
          rintro _ _ ⟨rfl, J3, rfl, hJ3⟩
          refine k_aload f184_140 rfl ?_
          refine k_aload f184_141 rfl ?_
          refine k_getr (q := 62) f184_142 hS.o51 rfl hR.r51_25 ?_
          refine k_iconst (v := 6) f184_145 rfl ?_
          refine k_ia (k := 6) (w := fo) f184_147 hS.a62 rfl (by decide) (by decide) ((congrFun s62b 6).trans h6) ?_
          refine k_callv (as := [.int (fo)]) (rest := []) f184_148 hS.o51 rfl rfl rfl rfl (q_barred (f := fo) (w := gW s n nu wo (th - sp) (h ||| 2 ^ b) True (nI b) (nI b) th) hR hS (hA.kr kr2) (by rw [kr2 0 4 (by omega)]; exact hf) hJ3) ?_
          rintro _ _ ⟨rfl, I3, J4, rfl, hI3, _⟩
          have hz3 := hz2.sc hI3
          have hr3 := hr2.sc hI3
          rw [baB_kr kr2]
          refine k_beq f184_151 (fun h_ => absurd (b2) h_) (fun _ => ?_)
          exact k_vret f184_154 ⟨rfl, I3, J4, rfl, by unfold goS; rw [show sv (baB I0 fo) s n nu wo sp h a b th = 0 from by unfold sv; rw [if_neg b1, if_neg tb, if_pos b2], if_neg nv, if_neg (by decide), if_neg (by decide)]; exact hz3, hr3⟩
        · refine k_iload f184_0 rfl ?_
          refine k_iconst (v := 1000000) f184_2 rfl ?_
          refine k_ic_ne f184_5 (fun _ => ?_) (fun h_ => absurd (nv2) h_)
          refine k_aload f184_9 rfl ?_
          refine k_iload f184_10 rfl ?_
          refine k_iload f184_11 rfl ?_
          refine k_iload f184_12 rfl ?_
          refine k_iload f184_14 rfl ?_
          refine k_isub f184_15 ?_
          refine k_iload f184_16 rfl ?_
          refine k_iload f184_18 rfl ?_
          refine k_iload f184_20 rfl ?_
          refine e_s (as := [.int (nI b), .int (nI h)]) (rest := [.int (nI h), .int ((th) - (sp)), .int (wo), .int (nu), .ref 51]) f184_22 rfl rfl rfl (s_isOf (b := h) (p := b) (by omega) (by omega)) ?_
          refine k_bne f184_25 (fun h_ => absurd h_ (tb)) (fun _ => ?_)
          refine k_iconst (v := 1) f184_28 rfl ?_
          refine k_goto f184_29 ?_
          refine k_iload f184_33 rfl ?_
          refine k_iload f184_35 rfl ?_
          refine k_iload f184_37 rfl ?_
          refine k_callv (as := [.int (th), .int (nI b), .int (nI a), .int (1), .int (nI h), .int ((th) - (sp)), .int (wo), .int (nu)]) (rest := []) f184_39 hS.o51 rfl rfl rfl rfl (q_words (h := h) (S := True) hR hS s62 hn hn8 hh) ?_
          rintro _ _ ⟨rfl, J1, rfl, hJ1⟩
          refine k_aload f184_42 rfl ?_
          refine k_aload f184_43 rfl ?_
          refine k_getr (q := 62) f184_44 hS.o51 rfl hR.r51_25 ?_
          refine k_iconst (v := 6) f184_47 rfl ?_
          refine k_ia (k := 6) (w := fo) f184_49 hS.a62 rfl (by decide) (by decide) ((congrFun s62 6).trans h6) ?_
          refine k_callv (as := [.int (fo)]) (rest := []) f184_50 hS.o51 rfl rfl rfl rfl (q_barred (f := fo) (w := gW s n nu wo (th - sp) h (¬ h.testBit b = true) (nI a) (nI b) th) hR hS (hA.kr kr) (by rw [kr 0 4 (by omega)]; exact hf) (fun j h9 => (hJ1 j h9).trans (congrFun (gW_S ⟨fun _ => tb, fun _ => trivial⟩) _))) ?_
          rintro _ _ ⟨rfl, I2, J2, rfl, hI2, _⟩
          have hz2 := hz.sc hI2
          have hr2 := hr.sc hI2
          have s62b : I2 62 = s := (funext fun k => hI2 62 k (by omega)).trans s62
          have kr2 := hr2.kr
          rw [baB_kr kr]
          refine k_beq f184_53 (fun _ => ?_) (fun h_ => (absurd h_ (b1)))
          refine k_iload f184_57 rfl ?_
          refine k_iload f184_59 rfl ?_
          refine e_s (as := [.int (nI b), .int (nI h)]) (rest := []) f184_61 rfl rfl rfl (s_isOf (b := h) (p := b) (by omega) (by omega)) ?_
          refine k_beq f184_64 (fun _ => ?_) (fun h_ => (absurd h_ (tb)))
          refine k_aload f184_116 rfl ?_
          refine k_iload f184_117 rfl ?_
          refine k_iload f184_118 rfl ?_
          refine k_iload f184_119 rfl ?_
          refine k_iload f184_121 rfl ?_
          refine k_isub f184_122 ?_
          refine k_iload f184_123 rfl ?_
          refine k_iconst (v := 1) f184_125 rfl ?_
          refine k_iload f184_126 rfl ?_
          refine k_ishl f184_128 ?_
          refine k_ior f184_129 ?_
          rw [ehb]
          refine k_iconst (v := 1) f184_130 rfl ?_
          refine k_iload f184_131 rfl ?_
          refine k_iload f184_133 rfl ?_
          refine k_iload f184_135 rfl ?_
          refine k_callv (as := [.int (th), .int (nI b), .int (nI b), .int (1), .int (nI (h ||| 2 ^ b)), .int ((th) - (sp)), .int (wo), .int (nu)]) (rest := []) f184_137 hS.o51 rfl rfl rfl rfl (q_words (h := h ||| 2 ^ b) (S := True) hR hS s62b hn hn8 hhb) ?_
          rintro _ _ ⟨rfl, J3, rfl, hJ3⟩
          refine k_aload f184_140 rfl ?_
          refine k_aload f184_141 rfl ?_
          refine k_getr (q := 62) f184_142 hS.o51 rfl hR.r51_25 ?_
          refine k_iconst (v := 6) f184_145 rfl ?_
          refine k_ia (k := 6) (w := fo) f184_147 hS.a62 rfl (by decide) (by decide) ((congrFun s62b 6).trans h6) ?_
          refine k_callv (as := [.int (fo)]) (rest := []) f184_148 hS.o51 rfl rfl rfl rfl (q_barred (f := fo) (w := gW s n nu wo (th - sp) (h ||| 2 ^ b) True (nI b) (nI b) th) hR hS (hA.kr kr2) (by rw [kr2 0 4 (by omega)]; exact hf) hJ3) ?_
          rintro _ _ ⟨rfl, I3, J4, rfl, hI3, _⟩
          have hz3 := hz2.sc hI3
          have hr3 := hr2.sc hI3
          rw [baB_kr kr2]
          refine k_beq f184_151 (fun _ => ?_) (fun h_ => (absurd h_ (b2)))
          refine k_aload f184_155 rfl ?_
          refine k_aload f184_156 rfl ?_
          refine k_gI (w := z.2.2.1) f184_157 hS.o51 rfl hz3.2.2.2.1 ?_
          refine k_if_ge f184_160 (fun g0 => ?_) (fun g0 => ?_)
          · refine k_aload f184_168 rfl ?_
            refine k_gI (w := z.2.2.1) f184_169 hS.o51 rfl hz3.2.2.2.1 ?_
            refine k_putI f184_172 hS.o51 rfl ?_
            refine k_aload f184_175 rfl ?_
            refine k_iload f184_176 rfl ?_
            refine k_iconst (v := 1) f184_178 rfl ?_
            refine k_iadd f184_179 ?_
            rw [nI_1 pd]
            refine k_aload f184_180 rfl ?_
            refine k_gI (w := nI z.2.2.2) f184_181 hS.o51 rfl (Eq.trans (z_u_k _ _ _ (by decide)) hz3.2.2.2.2.1) ?_
            refine k_ic_ge f184_184 (fun g1 => ?_) (fun g1 => ?_)
            · refine k_aload f184_194 rfl ?_
              refine k_gI (w := nI z.2.2.2) f184_195 hS.o51 rfl (Eq.trans (z_u_k _ _ _ (by decide)) hz3.2.2.2.2.1) ?_
              refine k_putI f184_198 hS.o51 rfl ?_
              exact k_vret f184_201 ⟨rfl, _, J4, rfl, by unfold goS; rw [show sv (baB I0 fo) s n nu wo sp h a b th = 2 from by unfold sv; rw [if_neg b1, if_neg tb, if_neg b2], if_neg nv, if_neg (by decide), if_pos rfl, if_pos g0, if_pos ((nI_leI (by have := hz3.2.2.2.2.2; omega) (by omega)).mp g1)]; exact hz3.home hz3.2.2.2.2.2, fun p k g1 g2 => by rw [z_u_no _ _ (by omega), z_u_no _ _ (by omega)]; exact hr3 p k g1 g2⟩
            · refine k_iload f184_187 rfl ?_
              refine k_iconst (v := 1) f184_189 rfl ?_
              refine k_iadd f184_190 ?_
              rw [nI_1 pd]
              refine k_goto f184_191 ?_
              refine k_putI f184_198 hS.o51 rfl ?_
              exact k_vret f184_201 ⟨rfl, _, J4, rfl, by unfold goS; rw [show sv (baB I0 fo) s n nu wo sp h a b th = 2 from by unfold sv; rw [if_neg b1, if_neg tb, if_neg b2], if_neg nv, if_neg (by decide), if_pos rfl, if_pos g0, if_neg (fun q => g1 ((nI_leI (by have := hz3.2.2.2.2.2; omega) (by omega)).mpr q))]; exact hz3.home (by omega), fun p k g1 g2 => by rw [z_u_no _ _ (by omega), z_u_no _ _ (by omega)]; exact hr3 p k g1 g2⟩
          · refine k_iload f184_163 rfl ?_
            refine k_goto f184_165 ?_
            refine k_putI f184_172 hS.o51 rfl ?_
            refine k_aload f184_175 rfl ?_
            refine k_iload f184_176 rfl ?_
            refine k_iconst (v := 1) f184_178 rfl ?_
            refine k_iadd f184_179 ?_
            rw [nI_1 pd]
            refine k_aload f184_180 rfl ?_
            refine k_gI (w := nI z.2.2.2) f184_181 hS.o51 rfl (Eq.trans (z_u_k _ _ _ (by decide)) hz3.2.2.2.2.1) ?_
            refine k_ic_ge f184_184 (fun g1 => ?_) (fun g1 => ?_)
            · refine k_aload f184_194 rfl ?_
              refine k_gI (w := nI z.2.2.2) f184_195 hS.o51 rfl (Eq.trans (z_u_k _ _ _ (by decide)) hz3.2.2.2.2.1) ?_
              refine k_putI f184_198 hS.o51 rfl ?_
              exact k_vret f184_201 ⟨rfl, _, J4, rfl, by unfold goS; rw [show sv (baB I0 fo) s n nu wo sp h a b th = 2 from by unfold sv; rw [if_neg b1, if_neg tb, if_neg b2], if_neg nv, if_neg (by decide), if_pos rfl, if_neg g0, if_pos ((nI_leI (by have := hz3.2.2.2.2.2; omega) (by omega)).mp g1)]; exact hz3.home hz3.2.2.2.2.2, fun p k g1 g2 => by rw [z_u_no _ _ (by omega), z_u_no _ _ (by omega)]; exact hr3 p k g1 g2⟩
            · refine k_iload f184_187 rfl ?_
              refine k_iconst (v := 1) f184_189 rfl ?_
              refine k_iadd f184_190 ?_
              rw [nI_1 pd]
              refine k_goto f184_191 ?_
              refine k_putI f184_198 hS.o51 rfl ?_
              exact k_vret f184_201 ⟨rfl, _, J4, rfl, by unfold goS; rw [show sv (baB I0 fo) s n nu wo sp h a b th = 2 from by unfold sv; rw [if_neg b1, if_neg tb, if_neg b2], if_neg nv, if_neg (by decide), if_pos rfl, if_neg g0, if_neg (fun q => g1 ((nI_leI (by have := hz3.2.2.2.2.2; omega) (by omega)).mpr q))]; exact hz3.home (by omega), fun p k g1 g2 => by rw [z_u_no _ _ (by omega), z_u_no _ _ (by omega)]; exact hr3 p k g1 g2⟩
