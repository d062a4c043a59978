/-! THE SEARCH, in the reference: the whole call. -/
theorem RSt.cg {I I' : Nat → Nat → Int32} {z : Nat × (Nat → Nat) × Int32 × Nat} (h : RSt I z) (hi : ∀ p k, p ≠ 64 → ¬ (p = 51 ∧ k = 29) → I' p k = I p k) : RSt I' z := by
  unfold RSt at h ⊢
  rw [hi _ _ (by omega) (by omega), hi 51 32 (by omega) (by omega), hi 51 33 (by omega) (by omega)]
  refine ⟨h.1, h.2.1, fun p hp => ?_, h.2.2.2⟩
  rw [hi _ _ (by omega) (by omega)]
  exact h.2.2.1 p hp
theorem q_search0 {x : Nat × (Nat → Int32)} {d : Nat} {I : Nat → Nat → Int32} {J : Nat → Nat → Int64} {R : Nat → Nat → Option Nat} {G : zG} {n m h p g : Nat} {s : Nat → Int32} {fo nu wo sp fr fe : Int32} (hR : Rs R) (hS : Sh G) (hA : RuA I R G) (hf : fo = -1 ∨ Rg fo (cl (I 0 4))) (hs : I 62 = s) (h6 : s 6 = fo) (hn : s 1 = nI n) (hn8 : n ≤ 8) (hmw : MW s m) (hm24 : m ≤ 24) (h11 : cl (s 0) < 11) (hh : h < 1024) (hp : p < 10) (hg : g < 2 ^ 31) (hfe : fe = 0) : zOk x (d + 5) 185 0 [.ref 51, .int (nu), .int (wo), .int (nI p), .int (sp), .int (nI h), .int (0), .int (fr), .int (nI g), zU, zU, zU, zU, zU, zU, zU] [] (I, J, R, G) (fun v mm => v = none ∧ ∃ I' J', mm = (I', J', R, G) ∧ RSt I' (SE (baB I fo) s n m nu wo sp fr fe p h g) ∧ RF2 I I') := by
  refine k_aload f185_0 rfl ?_
  refine k_iconst (v := (-2)) f185_1 rfl ?_
  refine k_putI f185_3 hS.o51 rfl ?_
  refine k_aload f185_6 rfl ?_
  refine k_iconst (v := 1000000) f185_7 rfl ?_
  refine k_putI f185_10 hS.o51 rfl ?_
  refine k_aload f185_13 rfl ?_
  refine k_iconst (v := 1) f185_14 rfl ?_
  refine k_iload f185_15 rfl ?_
  refine k_ishl f185_16 ?_
  refine k_putI f185_17 hS.o51 rfl ?_
  rw [sh_1 p (by omega)]
  refine k_iconst (v := 0) f185_20 rfl ?_
  refine k_istore (L' := [.ref 51, .int (nu), .int (wo), .int (nI p), .int (sp), .int (nI h), .int (0), .int (fr), .int (nI g), .int (0), zU, zU, zU, zU, zU, zU]) f185_21 rfl rfl ?_
  obtain ⟨I1, eI1⟩ : ∃ I1, I1 = z_u (z_u (z_u I 51 32 (-2)) 51 33 1000000) 51 31 (nI (2 ^ p)) := ⟨_, rfl⟩
  rw [← eI1]
  have f1 : ∀ q k, ¬ (q = 51 ∧ (k = 31 ∨ k = 32 ∨ k = 33)) → I1 q k = I q k := fun q k h => by rw [eI1, z_u_no _ _ (by omega), z_u_no _ _ (by omega), z_u_no _ _ (by omega)]
  refine lp_pb (d := d + 5) (I0 := I1) hR hS hp (fun I2 u9 hpb hf2 => ?_) 10 0 I1 (by omega) (fun k hk => absurd hk (Nat.not_lt_zero _)) (fun _ _ _ => rfl)
  have f2 : ∀ q k, q ≠ 65 → ¬ (q = 51 ∧ (k = 31 ∨ k = 32 ∨ k = 33)) → I2 q k = I q k := fun q k h1 h2 => (hf2 q k h1).trans (f1 q k h2)
  have hz2 : RSt I2 (se0 p) := ⟨by rw [hf2 _ _ (by omega), eI1, z_u_same]; rfl, Nat.lt_of_lt_of_le (Nat.pow_lt_pow_right (by omega) hp) (Nat.le_refl _), fun q hq => ⟨hpb q hq, by show pb0 p q ≤ 1000000; unfold pb0; split <;> omega⟩, by rw [hf2 _ _ (by omega), eI1, z_u_k _ _ _ (by omega), z_u_k _ _ _ (by omega), z_u_same]; rfl, by rw [hf2 _ _ (by omega), eI1, z_u_k _ _ _ (by omega), z_u_same]; rfl, Nat.le_refl _⟩
  have s62 : I2 62 = s := (funext fun k => f2 62 k (by omega) (by omega)).trans hs
  have kr2 : Kr I I2 := fun p k hp => f2 p k (by omega) (by omega)
  by_cases gd : fr - sp ≤ s 7
  · refine k_iload f185_56 rfl ?_
    refine k_iload f185_58 rfl ?_
    refine k_isub f185_60 ?_
    refine k_aload f185_61 rfl ?_
    refine k_getr (q := 62) f185_62 hS.o51 rfl hR.r51_25 ?_
    refine k_iconst (v := 7) f185_65 rfl ?_
    refine k_ia (k := 7) (w := s 7) f185_67 hS.a62 rfl (by decide) (by decide) (congrFun s62 7) ?_
    refine k_ic_le f185_68 (fun _ => ?_) (fun h_ => absurd (gd) h_)
    refine k_iload f185_72 rfl ?_
    refine k_if_eq f185_74 (fun _ => ?_) (fun h_ => absurd (by decide) h_)
    refine k_aload f185_120 rfl ?_
    refine k_iload f185_121 rfl ?_
    refine k_iload f185_123 rfl ?_
    have hz4 := hz2
    have f4 : ∀ q k, q ≠ 65 → ¬ (q = 51 ∧ (k = 23 ∨ k = 31 ∨ k = 32 ∨ k = 33)) → I2 q k = I q k := fun q k h1 h2 => f2 q k h1 (by omega)
    have s624 : I2 62 = s := (funext fun k => f4 62 k (by omega) (by omega)).trans hs
    refine k_callv (as := [.int (nI g), .int (fr)]) (rest := []) f185_125 hS.o51 rfl rfl rfl rfl (q_orders (s := s) hR hS s624 hmw.1 hm24 hg) ?_
    rintro _ _ ⟨rfl, I5, rfl, hA5, h29, f5⟩
    refine k_iconst (v := 0) f185_128 rfl ?_
    refine k_istore (L' := [.ref 51, .int (nu), .int (wo), .int (nI p), .int (sp), .int (nI h), .int (0), .int (fr), .int (nI g), .int (0), zU, zU, zU, zU, zU, zU]) f185_129 rfl rfl ?_
    obtain ⟨L, eL⟩ : ∃ L, L = frL (elP s fr g) (fun k => s (56 + 3 * k)) m := ⟨_, rfl⟩
    rw [← eL] at hA5 h29
    have hLl : L.length ≤ m := by rw [eL]; exact frL_len m
    have kr5 : Kr I I5 := fun p k hp => (f5 p k (by omega) (by omega)).trans (f4 p k (by omega) (by omega))
    have hz5 := hz4.cg f5
    have eb5 : baB I5 fo = baB I fo := funext fun w => baB_kr kr5 fo w
    refine zOk.imp (lp_se (d := d) (I0 := I5) (p := p) (g := g) (fr := fr) hR hS (hA.kr kr5) (by rw [kr5 0 4 (by omega)]; exact hf) ((funext fun k => f5 62 k (by omega) (by omega)).trans s624) h6 hn hn8 hmw hm24 h11 hh h29 (by omega) L.reverse 0 I5 J _ _ _ _ _ _ _ (by rw [List.length_reverse, Nat.zero_add]) hA5.rev (fun a ha => by rw [List.mem_reverse, eL] at ha; exact frL_mem ha) hz5 (fun _ _ _ _ => rfl)) ?_
    rintro _ _ ⟨rfl, I6, J6, rfl, hz6, hf6⟩
    rw [eb5] at hz6
    have e : SE (baB I fo) s n m nu wo sp fr fe p h g = seL (baB I fo) s n nu wo sp h L.reverse (se0 p) := by
      unfold SE
      rw [if_pos gd, if_neg (show ¬ hoB (baB I fo) s n nu wo sp fr fe p h = true from fun k => (hoB_iff.mp k).2.1 hfe), ← eL]
    exact ⟨rfl, I6, J6, rfl, e ▸ hz6, fun q k h1 h2 => (hf6 q k (by omega) (by omega)).trans ((f5 q k (by omega) (by omega)).trans (f4 q k (by omega) (by omega)))⟩
  · refine k_iload f185_56 rfl ?_
    refine k_iload f185_58 rfl ?_
    refine k_isub f185_60 ?_
    refine k_aload f185_61 rfl ?_
    refine k_getr (q := 62) f185_62 hS.o51 rfl hR.r51_25 ?_
    refine k_iconst (v := 7) f185_65 rfl ?_
    refine k_ia (k := 7) (w := s 7) f185_67 hS.a62 rfl (by decide) (by decide) (congrFun s62 7) ?_
    refine k_ic_le f185_68 (fun h_ => absurd h_ (gd)) (fun _ => ?_)
    exact k_vret f185_71 ⟨rfl, I2, J, rfl, by unfold SE; rw [if_neg gd]; exact hz2, fun q k h1 h2 => f2 q k (by omega) (by omega)⟩
theorem q_search1 {x : Nat × (Nat → Int32)} {d : Nat} {I : Nat → Nat → Int32} {J : Nat → Nat → Int64} {R : Nat → Nat → Option Nat} {G : zG} {n m h p g : Nat} {s : Nat → Int32} {fo nu wo sp fr fe : Int32} (hR : Rs R) (hS : Sh G) (hA : RuA I R G) (hf : fo = -1 ∨ Rg fo (cl (I 0 4))) (hs : I 62 = s) (h6 : s 6 = fo) (hn : s 1 = nI n) (hn8 : n ≤ 8) (hmw : MW s m) (hm24 : m ≤ 24) (h11 : cl (s 0) < 11) (hh : h < 1024) (hp : p < 10) (hg : g < 2 ^ 31) (hfe : ¬ fe = 0) : zOk x (d + 5) 185 0 [.ref 51, .int (nu), .int (wo), .int (nI p), .int (sp), .int (nI h), .int (1), .int (fr), .int (nI g), zU, zU, zU, zU, zU, zU, zU] [] (I, J, R, G) (fun v mm => v = none ∧ ∃ I' J', mm = (I', J', R, G) ∧ RSt I' (SE (baB I fo) s n m nu wo sp fr fe p h g) ∧ RF2 I I') := by
  refine k_aload f185_0 rfl ?_
  refine k_iconst (v := (-2)) f185_1 rfl ?_
  refine k_putI f185_3 hS.o51 rfl ?_
  refine k_aload f185_6 rfl ?_
  refine k_iconst (v := 1000000) f185_7 rfl ?_
  refine k_putI f185_10 hS.o51 rfl ?_
  refine k_aload f185_13 rfl ?_
  refine k_iconst (v := 1) f185_14 rfl ?_
  refine k_iload f185_15 rfl ?_
  refine k_ishl f185_16 ?_
  refine k_putI f185_17 hS.o51 rfl ?_
  rw [sh_1 p (by omega)]
  refine k_iconst (v := 0) f185_20 rfl ?_
  refine k_istore (L' := [.ref 51, .int (nu), .int (wo), .int (nI p), .int (sp), .int (nI h), .int (1), .int (fr), .int (nI g), .int (0), zU, zU, zU, zU, zU, zU]) f185_21 rfl rfl ?_
  obtain ⟨I1, eI1⟩ : ∃ I1, I1 = z_u (z_u (z_u I 51 32 (-2)) 51 33 1000000) 51 31 (nI (2 ^ p)) := ⟨_, rfl⟩
  rw [← eI1]
  have f1 : ∀ q k, ¬ (q = 51 ∧ (k = 31 ∨ k = 32 ∨ k = 33)) → I1 q k = I q k := fun q k h => by rw [eI1, z_u_no _ _ (by omega), z_u_no _ _ (by omega), z_u_no _ _ (by omega)]
  refine lp_pb (d := d + 5) (I0 := I1) hR hS hp (fun I2 u9 hpb hf2 => ?_) 10 0 I1 (by omega) (fun k hk => absurd hk (Nat.not_lt_zero _)) (fun _ _ _ => rfl)
  have f2 : ∀ q k, q ≠ 65 → ¬ (q = 51 ∧ (k = 31 ∨ k = 32 ∨ k = 33)) → I2 q k = I q k := fun q k h1 h2 => (hf2 q k h1).trans (f1 q k h2)
  have hz2 : RSt I2 (se0 p) := ⟨by rw [hf2 _ _ (by omega), eI1, z_u_same]; rfl, Nat.lt_of_lt_of_le (Nat.pow_lt_pow_right (by omega) hp) (Nat.le_refl _), fun q hq => ⟨hpb q hq, by show pb0 p q ≤ 1000000; unfold pb0; split <;> omega⟩, by rw [hf2 _ _ (by omega), eI1, z_u_k _ _ _ (by omega), z_u_k _ _ _ (by omega), z_u_same]; rfl, by rw [hf2 _ _ (by omega), eI1, z_u_k _ _ _ (by omega), z_u_same]; rfl, Nat.le_refl _⟩
  have s62 : I2 62 = s := (funext fun k => f2 62 k (by omega) (by omega)).trans hs
  have kr2 : Kr I I2 := fun p k hp => f2 p k (by omega) (by omega)
  by_cases gd : fr - sp ≤ s 7
  · by_cases b1 : baB I fo (gW s n nu wo (fr - sp) h True (nI p) (nI p) fr) = true
    · refine k_iload f185_56 rfl ?_
      refine k_iload f185_58 rfl ?_
      refine k_isub f185_60 ?_
      refine k_aload f185_61 rfl ?_
      refine k_getr (q := 62) f185_62 hS.o51 rfl hR.r51_25 ?_
      refine k_iconst (v := 7) f185_65 rfl ?_
      refine k_ia (k := 7) (w := s 7) f185_67 hS.a62 rfl (by decide) (by decide) (congrFun s62 7) ?_
      refine k_ic_le f185_68 (fun _ => ?_) (fun h_ => absurd (gd) h_)
      refine k_iload f185_72 rfl ?_
      refine k_if_eq f185_74 (fun h_ => absurd h_ (by decide)) (fun _ => ?_)
      refine k_aload f185_77 rfl ?_
      refine k_iload f185_78 rfl ?_
      refine k_iload f185_79 rfl ?_
      refine k_iload f185_80 rfl ?_
      refine k_iload f185_82 rfl ?_
      refine k_isub f185_84 ?_
      refine k_iload f185_85 rfl ?_
      refine k_iconst (v := 1) f185_87 rfl ?_
      refine k_iload f185_88 rfl ?_
      refine k_iload f185_89 rfl ?_
      refine k_iload f185_90 rfl ?_
      refine k_callv (as := [.int (fr), .int (nI p), .int (nI p), .int (1), .int (nI h), .int ((fr) - (sp)), .int (wo), .int (nu)]) (rest := []) f185_92 hS.o51 rfl rfl rfl rfl (q_words (h := h) (S := True) hR hS s62 hn hn8 hh) ?_
      rintro _ _ ⟨rfl, J1, rfl, hJ1⟩
      refine k_aload f185_95 rfl ?_
      refine k_aload f185_96 rfl ?_
      refine k_getr (q := 62) f185_97 hS.o51 rfl hR.r51_25 ?_
      refine k_iconst (v := 6) f185_100 rfl ?_
      refine k_ia (k := 6) (w := fo) f185_102 hS.a62 rfl (by decide) (by decide) ((congrFun s62 6).trans h6) ?_
      refine k_callv (as := [.int (fo)]) (rest := []) f185_103 hS.o51 rfl rfl rfl rfl (q_barred (f := fo) (w := gW s n nu wo (fr - sp) h True (nI p) (nI p) fr) hR hS (hA.kr kr2) (by rw [kr2 0 4 (by omega)]; exact hf) hJ1) ?_
      rintro _ _ ⟨rfl, I3, J2, rfl, hI3, _⟩
      have hz3 := hz2.sc hI3
      have f3 : ∀ q k, q ≠ 65 → ¬ (q = 51 ∧ (k = 23 ∨ k = 31 ∨ k = 32 ∨ k = 33)) → I3 q k = I q k := fun q k h1 h2 => (hI3 q k (by omega)).trans (f2 q k h1 (by omega))
      rw [baB_kr kr2]
      refine k_bne f185_106 (fun _ => ?_) (fun h_ => absurd (b1) h_)
      refine k_aload f185_120 rfl ?_
      refine k_iload f185_121 rfl ?_
      refine k_iload f185_123 rfl ?_
      have hz4 := hz3
      have f4 := f3
      have s624 : I3 62 = s := (funext fun k => f4 62 k (by omega) (by omega)).trans hs
      refine k_callv (as := [.int (nI g), .int (fr)]) (rest := []) f185_125 hS.o51 rfl rfl rfl rfl (q_orders (s := s) hR hS s624 hmw.1 hm24 hg) ?_
      rintro _ _ ⟨rfl, I5, rfl, hA5, h29, f5⟩
      refine k_iconst (v := 0) f185_128 rfl ?_
      refine k_istore (L' := [.ref 51, .int (nu), .int (wo), .int (nI p), .int (sp), .int (nI h), .int (1), .int (fr), .int (nI g), .int (0), zU, zU, zU, zU, zU, zU]) f185_129 rfl rfl ?_
      obtain ⟨L, eL⟩ : ∃ L, L = frL (elP s fr g) (fun k => s (56 + 3 * k)) m := ⟨_, rfl⟩
      rw [← eL] at hA5 h29
      have hLl : L.length ≤ m := by rw [eL]; exact frL_len m
      have kr5 : Kr I I5 := fun p k hp => (f5 p k (by omega) (by omega)).trans (f4 p k (by omega) (by omega))
      have hz5 := hz4.cg f5
      have eb5 : baB I5 fo = baB I fo := funext fun w => baB_kr kr5 fo w
      refine zOk.imp (lp_se (d := d) (I0 := I5) (p := p) (g := g) (fr := fr) hR hS (hA.kr kr5) (by rw [kr5 0 4 (by omega)]; exact hf) ((funext fun k => f5 62 k (by omega) (by omega)).trans s624) h6 hn hn8 hmw hm24 h11 hh h29 (by omega) L.reverse 0 I5 J2 _ _ _ _ _ _ _ (by rw [List.length_reverse, Nat.zero_add]) hA5.rev (fun a ha => by rw [List.mem_reverse, eL] at ha; exact frL_mem ha) hz5 (fun _ _ _ _ => rfl)) ?_
      rintro _ _ ⟨rfl, I6, J6, rfl, hz6, hf6⟩
      rw [eb5] at hz6
      have e : SE (baB I fo) s n m nu wo sp fr fe p h g = seL (baB I fo) s n nu wo sp h L.reverse (se0 p) := by
        unfold SE
        rw [if_pos gd, if_neg (show ¬ hoB (baB I fo) s n nu wo sp fr fe p h = true from fun k => (hoB_iff.mp k).2.2 b1), ← eL]
      exact ⟨rfl, I6, J6, rfl, e ▸ hz6, fun q k h1 h2 => (hf6 q k (by omega) (by omega)).trans ((f5 q k (by omega) (by omega)).trans (f4 q k (by omega) (by omega)))⟩
    · refine k_iload f185_56 rfl ?_
      refine k_iload f185_58 rfl ?_
      refine k_isub f185_60 ?_
      refine k_aload f185_61 rfl ?_
      refine k_getr (q := 62) f185_62 hS.o51 rfl hR.r51_25 ?_
      refine k_iconst (v := 7) f185_65 rfl ?_
      refine k_ia (k := 7) (w := s 7) f185_67 hS.a62 rfl (by decide) (by decide) (congrFun s62 7) ?_
      refine k_ic_le f185_68 (fun _ => ?_) (fun h_ => absurd (gd) h_)
      refine k_iload f185_72 rfl ?_
      refine k_if_eq f185_74 (fun h_ => absurd h_ (by decide)) (fun _ => ?_)
      refine k_aload f185_77 rfl ?_
      refine k_iload f185_78 rfl ?_
      refine k_iload f185_79 rfl ?_
      refine k_iload f185_80 rfl ?_
      refine k_iload f185_82 rfl ?_
      refine k_isub f185_84 ?_
      refine k_iload f185_85 rfl ?_
      refine k_iconst (v := 1) f185_87 rfl ?_
      refine k_iload f185_88 rfl ?_
      refine k_iload f185_89 rfl ?_
      refine k_iload f185_90 rfl ?_
      refine k_callv (as := [.int (fr), .int (nI p), .int (nI p), .int (1), .int (nI h), .int ((fr) - (sp)), .int (wo), .int (nu)]) (rest := []) f185_92 hS.o51 rfl rfl rfl rfl (q_words (h := h) (S := True) hR hS s62 hn hn8 hh) ?_
      rintro _ _ ⟨rfl, J1, rfl, hJ1⟩
      refine k_aload f185_95 rfl ?_
      refine k_aload f185_96 rfl ?_
      refine k_getr (q := 62) f185_97 hS.o51 rfl hR.r51_25 ?_
      refine k_iconst (v := 6) f185_100 rfl ?_
      refine k_ia (k := 6) (w := fo) f185_102 hS.a62 rfl (by decide) (by decide) ((congrFun s62 6).trans h6) ?_
      refine k_callv (as := [.int (fo)]) (rest := []) f185_103 hS.o51 rfl rfl rfl rfl (q_barred (f := fo) (w := gW s n nu wo (fr - sp) h True (nI p) (nI p) fr) hR hS (hA.kr kr2) (by rw [kr2 0 4 (by omega)]; exact hf) hJ1) ?_
      rintro _ _ ⟨rfl, I3, J2, rfl, hI3, _⟩
      have hz3 := hz2.sc hI3
      have f3 : ∀ q k, q ≠ 65 → ¬ (q = 51 ∧ (k = 23 ∨ k = 31 ∨ k = 32 ∨ k = 33)) → I3 q k = I q k := fun q k h1 h2 => (hI3 q k (by omega)).trans (f2 q k h1 (by omega))
      rw [baB_kr kr2]
      refine k_bne f185_106 (fun h_ => absurd h_ (b1)) (fun _ => ?_)
      refine k_aload f185_109 rfl ?_
      refine k_iload f185_110 rfl ?_
      refine k_putI f185_112 hS.o51 rfl ?_
      refine k_aload f185_115 rfl ?_
      refine k_iconst (v := 0) f185_116 rfl ?_
      refine k_putI f185_117 hS.o51 rfl ?_
      refine k_aload f185_120 rfl ?_
      refine k_iload f185_121 rfl ?_
      refine k_iload f185_123 rfl ?_
      obtain ⟨I4, eI4⟩ : ∃ I4, I4 = z_u (z_u I3 51 32 fr) 51 33 0 := ⟨_, rfl⟩
      rw [← eI4]
      have hz4 : RSt I4 (se1 p fr) := by rw [eI4]; exact hz3.home (w := 0) (by omega)
      have f4 : ∀ q k, q ≠ 65 → ¬ (q = 51 ∧ (k = 23 ∨ k = 31 ∨ k = 32 ∨ k = 33)) → I4 q k = I q k := fun q k h1 h2 => by rw [eI4, z_u_no _ _ (by omega), z_u_no _ _ (by omega)]; exact f3 q k h1 h2
      have s624 : I4 62 = s := (funext fun k => f4 62 k (by omega) (by omega)).trans hs
      refine k_callv (as := [.int (nI g), .int (fr)]) (rest := []) f185_125 hS.o51 rfl rfl rfl rfl (q_orders (s := s) hR hS s624 hmw.1 hm24 hg) ?_
      rintro _ _ ⟨rfl, I5, rfl, hA5, h29, f5⟩
      refine k_iconst (v := 0) f185_128 rfl ?_
      refine k_istore (L' := [.ref 51, .int (nu), .int (wo), .int (nI p), .int (sp), .int (nI h), .int (1), .int (fr), .int (nI g), .int (0), zU, zU, zU, zU, zU, zU]) f185_129 rfl rfl ?_
      obtain ⟨L, eL⟩ : ∃ L, L = frL (elP s fr g) (fun k => s (56 + 3 * k)) m := ⟨_, rfl⟩
      rw [← eL] at hA5 h29
      have hLl : L.length ≤ m := by rw [eL]; exact frL_len m
      have kr5 : Kr I I5 := fun p k hp => (f5 p k (by omega) (by omega)).trans (f4 p k (by omega) (by omega))
      have hz5 := hz4.cg f5
      have eb5 : baB I5 fo = baB I fo := funext fun w => baB_kr kr5 fo w
      refine zOk.imp (lp_se (d := d) (I0 := I5) (p := p) (g := g) (fr := fr) hR hS (hA.kr kr5) (by rw [kr5 0 4 (by omega)]; exact hf) ((funext fun k => f5 62 k (by omega) (by omega)).trans s624) h6 hn hn8 hmw hm24 h11 hh h29 (by omega) L.reverse 0 I5 J2 _ _ _ _ _ _ _ (by rw [List.length_reverse, Nat.zero_add]) hA5.rev (fun a ha => by rw [List.mem_reverse, eL] at ha; exact frL_mem ha) hz5 (fun _ _ _ _ => rfl)) ?_
      rintro _ _ ⟨rfl, I6, J6, rfl, hz6, hf6⟩
      rw [eb5] at hz6
      have e : SE (baB I fo) s n m nu wo sp fr fe p h g = seL (baB I fo) s n nu wo sp h L.reverse (se1 p fr) := by
        unfold SE
        rw [if_pos gd, if_pos (show hoB (baB I fo) s n nu wo sp fr fe p h = true from hoB_iff.mpr ⟨gd, hfe, b1⟩), ← eL]
      exact ⟨rfl, I6, J6, rfl, e ▸ hz6, fun q k h1 h2 => (hf6 q k (by omega) (by omega)).trans ((f5 q k (by omega) (by omega)).trans (f4 q k (by omega) (by omega)))⟩
  · refine k_iload f185_56 rfl ?_
    refine k_iload f185_58 rfl ?_
    refine k_isub f185_60 ?_
    refine k_aload f185_61 rfl ?_
    refine k_getr (q := 62) f185_62 hS.o51 rfl hR.r51_25 ?_
    refine k_iconst (v := 7) f185_65 rfl ?_
    refine k_ia (k := 7) (w := s 7) f185_67 hS.a62 rfl (by decide) (by decide) (congrFun s62 7) ?_
    refine k_ic_le f185_68 (fun h_ => absurd h_ (gd)) (fun _ => ?_)
    exact k_vret f185_71 ⟨rfl, I2, J, rfl, by unfold SE; rw [if_neg gd]; exact hz2, fun q k h1 h2 => f2 q k (by omega) (by omega)⟩
