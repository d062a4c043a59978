/-! A TOWN's clause, in the class. -/
theorem wh_le {b : Nat → Nat} {n q : Nat} : whT b n 5 (.inr q) = 0 ∨ whT b n 5 (.inr q) = 1 ∨ whT b n 5 (.inr q) = 2 ∨ whT b n 5 (.inr q) = 3 ∨ whT b n 5 (.inr q) = 4 := by
  rw [wh_5]
  split
  · omega
  · split
    · omega
    · split
      · omega
      · split <;> omega
theorem wh_isL {b : Nat → Nat} {n q : Nat} (h : ¬ whT b n 5 (.inr q) = 0) : isL b n q = true := by
  rw [wh_5] at h
  split at h
  · next g => exact (tk_iff.mp g).1
  · split at h
    · next g => exact (tk_iff.mp g).1
    · split at h
      · next g => exact (tk_iff.mp g).1
      · split at h
        · next g => exact (tk_iff.mp g).1
        · exact absurd rfl h
theorem q_clauseC {x : Nat × (Nat → Int32)} {d : Nat} {I : Nat → Nat → Int32} {J : Nat → Nat → Int64} {R : Nat → Nat → Option Nat} {G : zG} {b : Nat → Nat} {n pl P y c m ln q : Nat} {cf mf : Nat → Nat × Nat × Nat} (hR : Rs R) (hS : Sh G) (hT : TP I b n) (ht : CX I b n (.inr q)) (hw : TwC I R G pl (P, y, (c, cf), (m, mf), ln)) (ho : tsO (P, y, (c, cf), (m, mf), ln)) : zOk x (d + 6) 58 0 [.ref 11, .ref pl, zU, zU] [] (I, J, R, G) (fun v mm => v = none ∧ ∃ I', mm = (I', J, R, G) ∧ FP pl I I' ∧ ClP I' R G b n pl (clT b n (P, y, (c, cf), (m, mf), ln) q)) := by
  obtain ⟨hP, hpl, w0, w1, w2, w3, wc, wm, wl1, wl2⟩ := hw
  have o1 : P = 0 ↔ ln = 0 := ho.1
  have o2 : P ≤ 10 := ho.2.1
  have o3 : y ≤ 999 := ho.2.2.1
  have o4 : c ≤ 8 := ho.2.2.2.1
  have o5 : m ≤ 24 := ho.2.2.2.2.1
  have o6 : ln ≤ 40 := ho.2.2.2.2.2.1
  have o7 : P = 0 ∨ 2 ≤ P := ho.2.2.2.2.2.2.2.2.2
  have hq : q ≤ n := ht.2.2.2.2.2.2.2
  have h400 := hT.1
  have e0 : I pl 0 = nI P := w0
  have e2 : I pl 2 = nI c := w2
  have e3 : I pl 3 = nI m := w3
  have l1 : I 11 1 = nI ln := wl1
  have l2 : I 11 2 = bI (0 < y) := wl2
  rcases wh_le (b := b) (n := n) (q := q) with hk | hk | hk | hk | hk
  · refine k_aload f58_0 rfl ?_
    refine k_getr (q := 9) f58_1 hS.o11 rfl hR.r11_0 ?_
    refine k_ldc f58_4 ?_
    refine e_v (as := [.retAddr 5]) (rest := []) f58_6 hS.o9 rfl rfl rfl ((show zRn x (d + 5) 54 [.ref 9, .retAddr 5] (I, J, R, G) (some (.int 0)) (I, J, R, G) from by have h := s_which (x := x) (d := d + 1) (J := J) (k := 5) hR hS hT (by omega) ht; rw [hk] at h; exact h)) ?_
    refine k_istore (L' := [.ref 11, .ref pl, .int (0), zU]) f58_9 rfl rfl ?_
    refine k_iload f58_10 rfl ?_
    refine k_if_ne f58_11 (fun h_ => absurd (by decide) h_) (fun _ => ?_)
    refine k_aload f58_14 rfl ?_
    refine k_getr (q := 9) f58_15 hS.o11 rfl hR.r11_0 ?_
    refine k_iconst (v := 0) f58_18 rfl ?_
    refine k_callv (as := [.int (0)]) (rest := []) f58_19 hS.o9 rfl rfl rfl rfl (q_fail (b := b) (n := n) (w := 0) hS hT.1 (by omega) ht) ?_
    rintro _ _ ⟨rfl, I1, rfl, ht1, hf1⟩
    exact k_vret f58_22 ⟨rfl, I1, rfl, hf1.fp, by rw [show clT b n (P, y, (c, cf), (m, mf), ln) q = .inl (1 + 8 * q) from if_pos hk]; exact ht1⟩
  · refine k_aload f58_0 rfl ?_
    refine k_getr (q := 9) f58_1 hS.o11 rfl hR.r11_0 ?_
    refine k_ldc f58_4 ?_
    refine e_v (as := [.retAddr 5]) (rest := []) f58_6 hS.o9 rfl rfl rfl ((show zRn x (d + 5) 54 [.ref 9, .retAddr 5] (I, J, R, G) (some (.int 1)) (I, J, R, G) from by have h := s_which (x := x) (d := d + 1) (J := J) (k := 5) hR hS hT (by omega) ht; rw [hk] at h; exact h)) ?_
    refine k_istore (L' := [.ref 11, .ref pl, .int (1), zU]) f58_9 rfl rfl ?_
    refine k_iload f58_10 rfl ?_
    refine k_if_ne f58_11 (fun _ => ?_) (fun h_ => absurd (by decide) h_)
    refine k_iload f58_23 rfl ?_
    refine k_iconst (v := 1) f58_24 rfl ?_
    refine k_ic_ne f58_25 (fun h_ => absurd (by decide) h_) (fun _ => ?_)
    refine k_iconst (v := 1) f58_28 rfl ?_
    refine k_goto f58_29 ?_
    refine k_aload f58_33 rfl ?_
    refine k_gI (w := nI ln) f58_34 hS.o11 rfl l1 ?_
    refine k_if_ne f58_37 (fun g0 => ?_) (fun g0 => ?_)
    · refine k_iconst (v := 0) f58_44 rfl ?_
      refine k_ic_ne f58_45 (fun _ => ?_) (fun h_ => absurd (by decide) h_)
      refine k_iconst (v := 1) f58_57 rfl ?_
      refine k_goto f58_58 ?_
      refine k_istore (L' := [.ref 11, .ref pl, .int (1), .int (1)]) f58_62 rfl rfl ?_
      refine k_iload f58_63 rfl ?_
      refine k_iload f58_64 rfl ?_
      refine k_iconst (v := 2) f58_65 rfl ?_
      refine k_ic_ne f58_66 (fun _ => ?_) (fun h_ => absurd (by decide) h_)
      refine k_iconst (v := 0) f58_80 rfl ?_
      refine k_ior f58_81 ?_
      rw [show (1 : Int32) ||| 0 = 1 from by decide]
      refine k_istore (L' := [.ref 11, .ref pl, .int (1), .int (1)]) f58_82 rfl rfl ?_
      refine k_iload f58_83 rfl ?_
      refine k_iload f58_84 rfl ?_
      refine k_iconst (v := 3) f58_85 rfl ?_
      refine k_ic_ne f58_86 (fun _ => ?_) (fun h_ => absurd (by decide) h_)
      refine k_iconst (v := 0) f58_102 rfl ?_
      refine k_ior f58_103 ?_
      rw [show (1 : Int32) ||| 0 = 1 from by decide]
      refine k_istore (L' := [.ref 11, .ref pl, .int (1), .int (1)]) f58_104 rfl rfl ?_
      refine k_iload f58_105 rfl ?_
      refine k_iload f58_106 rfl ?_
      refine k_iconst (v := 4) f58_107 rfl ?_
      refine k_ic_ne f58_108 (fun _ => ?_) (fun h_ => absurd (by decide) h_)
      refine k_iconst (v := 0) f58_124 rfl ?_
      refine k_ior f58_125 ?_
      rw [show (1 : Int32) ||| 0 = 1 from by decide]
      refine k_istore (L' := [.ref 11, .ref pl, .int (1), .int (1)]) f58_126 rfl rfl ?_
      refine k_iload f58_127 rfl ?_
      refine k_if_eq f58_128 (fun h_ => absurd h_ (by decide)) (fun _ => ?_)
      have z0 : ¬ ln = 0 := fun z => g0 (congrArg nI z)
      have hTm : tmB (P, y, (c, cf), (m, mf), ln) 1 = true := decide_eq_true (show 40 ≤ ln ∨ (1 = 1 ∧ 0 < P) ∨ (1 ≠ 1 ∧ P = 0) ∨ (1 = 2 ∧ 0 < y) ∨ (1 = 3 ∧ 8 ≤ c) ∨ (1 = 4 ∧ 24 ≤ m) by omega)
      refine k_aload f58_131 rfl ?_
      refine k_getr (q := 9) f58_132 hS.o11 rfl hR.r11_0 ?_
      refine k_iconst (v := 4) f58_135 rfl ?_
      refine k_callv (as := [.int (4)]) (rest := []) f58_136 hS.o9 rfl rfl rfl rfl (q_fail (b := b) (n := n) (w := 4) hS hT.1 (by omega) ht) ?_
      rintro _ _ ⟨rfl, I1, rfl, ht1, hf1⟩
      exact k_vret f58_139 ⟨rfl, I1, rfl, hf1.fp, by rw [show clT b n (P, y, (c, cf), (m, mf), ln) q = .inl (1 + 8 * q + 4) from by unfold clT; rw [hk, if_neg (by decide), if_pos hTm]]; exact ht1⟩
    · refine k_iconst (v := 1) f58_40 rfl ?_
      refine k_goto f58_41 ?_
      refine k_ic_ne f58_45 (fun h_ => absurd (by decide) h_) (fun _ => ?_)
      refine k_aload f58_48 rfl ?_
      refine k_gI (w := nI ln) f58_49 hS.o11 rfl l1 ?_
      refine k_iconst (v := 40) f58_52 rfl ?_
      refine k_ic_lt f58_54 (fun g1 => ?_) (fun g1 => ?_)
      · refine k_iconst (v := 0) f58_61 rfl ?_
        refine k_istore (L' := [.ref 11, .ref pl, .int (1), .int (0)]) f58_62 rfl rfl ?_
        refine k_iload f58_63 rfl ?_
        refine k_iload f58_64 rfl ?_
        refine k_iconst (v := 2) f58_65 rfl ?_
        refine k_ic_ne f58_66 (fun _ => ?_) (fun h_ => absurd (by decide) h_)
        refine k_iconst (v := 0) f58_80 rfl ?_
        refine k_ior f58_81 ?_
        rw [show (0 : Int32) ||| 0 = 0 from by decide]
        refine k_istore (L' := [.ref 11, .ref pl, .int (1), .int (0)]) f58_82 rfl rfl ?_
        refine k_iload f58_83 rfl ?_
        refine k_iload f58_84 rfl ?_
        refine k_iconst (v := 3) f58_85 rfl ?_
        refine k_ic_ne f58_86 (fun _ => ?_) (fun h_ => absurd (by decide) h_)
        refine k_iconst (v := 0) f58_102 rfl ?_
        refine k_ior f58_103 ?_
        rw [show (0 : Int32) ||| 0 = 0 from by decide]
        refine k_istore (L' := [.ref 11, .ref pl, .int (1), .int (0)]) f58_104 rfl rfl ?_
        refine k_iload f58_105 rfl ?_
        refine k_iload f58_106 rfl ?_
        refine k_iconst (v := 4) f58_107 rfl ?_
        refine k_ic_ne f58_108 (fun _ => ?_) (fun h_ => absurd (by decide) h_)
        refine k_iconst (v := 0) f58_124 rfl ?_
        refine k_ior f58_125 ?_
        rw [show (0 : Int32) ||| 0 = 0 from by decide]
        refine k_istore (L' := [.ref 11, .ref pl, .int (1), .int (0)]) f58_126 rfl rfl ?_
        refine k_iload f58_127 rfl ?_
        refine k_if_eq f58_128 (fun _ => ?_) (fun h_ => absurd (by decide) h_)
        have z0 : ln = 0 := (nI_eq (b := 0) (by omega) (by omega)).mp (Classical.not_not.mp g0)
        have z1 : ln < 40 := (nI_ltI (b := 40) (by omega) (by omega)).mp g1
        have hTm : ¬ tmB (P, y, (c, cf), (m, mf), ln) 1 = true := fun z => absurd (of_decide_eq_true z) (show ¬ (40 ≤ ln ∨ (1 = 1 ∧ 0 < P) ∨ (1 ≠ 1 ∧ P = 0) ∨ (1 = 2 ∧ 0 < y) ∨ (1 = 3 ∧ 8 ≤ c) ∨ (1 = 4 ∧ 24 ≤ m)) by omega)
        have hC : clT b n (P, y, (c, cf), (m, mf), ln) q = bdT b n 1 (P, y, (c, cf), (m, mf), ln) (wl b n q) := by unfold clT; rw [hk, if_neg (by decide), if_neg hTm]
        refine k_aload f58_140 rfl ?_
        refine k_dup f58_141 ?_
        refine k_gI (w := nI ln) f58_142 hS.o11 rfl l1 ?_
        refine k_iconst (v := 1) f58_145 rfl ?_
        refine k_iadd f58_146 ?_
        rw [nI_1 ln]
        refine k_putI f58_147 hS.o11 rfl ?_
        refine k_aload f58_150 rfl ?_
        refine k_getr (q := 9) f58_151 hS.o11 rfl hR.r11_0 ?_
        refine k_callv (as := []) (rest := []) f58_154 hS.o9 rfl rfl rfl rfl (q_next hR hS (hT.keep (fun k => z_u_p _ _ _ _ (by decide)) (fun k => z_u_p _ _ _ _ (by decide))) (ht.put (q := 11) (j := 1) (v := nI (ln + 1)) (by decide))) ?_
        rintro _ _ ⟨rfl, I2, rfl, ht2, hf2⟩
        have eL : ed b n q = wl b n q := if_pos (wh_isL (by rw [hk]; decide))
        obtain ⟨q1, eq1⟩ : ∃ q1, q1 = bk b n (wl b n q) := ⟨_, rfl⟩
        have ht2 : CX I2 b n (.inr q1) := by rw [eq1, ← eL]; exact ht2
        have hq1 : q1 ≤ n := ht2.2.2.2.2.2.2.2
        have i2 : ∀ p k, p ≠ 9 → ¬ (p = 11 ∧ k = 1) → I2 p k = I p k := fun p k h1 h2 => (hf2 p k h1).trans (z_u_no _ _ h2)
        have fp2 : FP pl I I2 := fun p k h1 h2 _ => i2 p k h1 (by omega)
        have hT2 : TP I2 b n := fp2.tp hpl hT
        have hw2 : TwC I2 R G pl (P, y, (c, cf), (m, mf), ln + 1) := by
          refine ⟨hP, hpl, (i2 _ _ (by omega) (by omega)).trans w0, (i2 _ _ (by omega) (by omega)).trans w1, (i2 _ _ (by omega) (by omega)).trans w2, (i2 _ _ (by omega) (by omega)).trans w3, fun i hi => ?_, fun i hi => ?_, (hf2 _ _ (by omega)).trans (z_u_same _ _ _ _), (i2 _ _ (by omega) (by omega)).trans wl2⟩
          · obtain ⟨x1, x2, x3⟩ := wc i hi
            exact ⟨(i2 _ _ (by omega) (by omega)).trans x1, (i2 _ _ (by omega) (by omega)).trans x2, (i2 _ _ (by omega) (by omega)).trans x3⟩
          · obtain ⟨x1, x2, x3, x4⟩ := wm i hi
            exact ⟨(i2 _ _ (by omega) (by omega)).trans x1, (i2 _ _ (by omega) (by omega)).trans x2, (i2 _ _ (by omega) (by omega)).trans x3, (i2 _ _ (by omega) (by omega)).trans x4⟩
        refine k_iload f58_157 rfl ?_
        refine k_tsin (t := 184) f58_158 (by decide) (by decide) rfl rfl ?_
        refine k_aload f58_184 rfl ?_
        refine k_aload f58_185 rfl ?_
        refine k_iconst (v := 2) f58_186 rfl ?_
        refine k_iconst (v := 10) f58_187 rfl ?_
        refine k_iconst (v := (-1)) f58_189 rfl ?_
        refine k_callv (as := [.int ((-1)), .int (10), .int (2)]) (rest := [.ref pl]) f58_190 hS.o11 rfl rfl rfl rfl (q_rdN (lo := 2) (hi := 10) (no := (-1)) (t := .inr q1) hR hS hT2 ht2 (by omega) (by omega)) ?_
        rintro _ _ ⟨rfl, I3, rfl, ht3, hf3⟩
        refine k_putI f58_193 hP.1 rfl ?_
        refine k_goto f58_196 ?_
        exact k_vret f58_233 ⟨rfl, _, rfl, (fp2.trans hf3.fp).put (by omega), by rw [hC]; exact fin_1 hq1 eq1 hw2 hf3 ht3⟩
      · refine k_iconst (v := 1) f58_57 rfl ?_
        refine k_goto f58_58 ?_
        refine k_istore (L' := [.ref 11, .ref pl, .int (1), .int (1)]) f58_62 rfl rfl ?_
        refine k_iload f58_63 rfl ?_
        refine k_iload f58_64 rfl ?_
        refine k_iconst (v := 2) f58_65 rfl ?_
        refine k_ic_ne f58_66 (fun _ => ?_) (fun h_ => absurd (by decide) h_)
        refine k_iconst (v := 0) f58_80 rfl ?_
        refine k_ior f58_81 ?_
        rw [show (1 : Int32) ||| 0 = 1 from by decide]
        refine k_istore (L' := [.ref 11, .ref pl, .int (1), .int (1)]) f58_82 rfl rfl ?_
        refine k_iload f58_83 rfl ?_
        refine k_iload f58_84 rfl ?_
        refine k_iconst (v := 3) f58_85 rfl ?_
        refine k_ic_ne f58_86 (fun _ => ?_) (fun h_ => absurd (by decide) h_)
        refine k_iconst (v := 0) f58_102 rfl ?_
        refine k_ior f58_103 ?_
        rw [show (1 : Int32) ||| 0 = 1 from by decide]
        refine k_istore (L' := [.ref 11, .ref pl, .int (1), .int (1)]) f58_104 rfl rfl ?_
        refine k_iload f58_105 rfl ?_
        refine k_iload f58_106 rfl ?_
        refine k_iconst (v := 4) f58_107 rfl ?_
        refine k_ic_ne f58_108 (fun _ => ?_) (fun h_ => absurd (by decide) h_)
        refine k_iconst (v := 0) f58_124 rfl ?_
        refine k_ior f58_125 ?_
        rw [show (1 : Int32) ||| 0 = 1 from by decide]
        refine k_istore (L' := [.ref 11, .ref pl, .int (1), .int (1)]) f58_126 rfl rfl ?_
        refine k_iload f58_127 rfl ?_
        refine k_if_eq f58_128 (fun h_ => absurd h_ (by decide)) (fun _ => ?_)
        have z0 : ln = 0 := (nI_eq (b := 0) (by omega) (by omega)).mp (Classical.not_not.mp g0)
        have z1 : ¬ ln < 40 := fun z => g1 ((nI_ltI (b := 40) (by omega) (by omega)).mpr z)
        have hTm : tmB (P, y, (c, cf), (m, mf), ln) 1 = true := decide_eq_true (show 40 ≤ ln ∨ (1 = 1 ∧ 0 < P) ∨ (1 ≠ 1 ∧ P = 0) ∨ (1 = 2 ∧ 0 < y) ∨ (1 = 3 ∧ 8 ≤ c) ∨ (1 = 4 ∧ 24 ≤ m) by omega)
        refine k_aload f58_131 rfl ?_
        refine k_getr (q := 9) f58_132 hS.o11 rfl hR.r11_0 ?_
        refine k_iconst (v := 4) f58_135 rfl ?_
        refine k_callv (as := [.int (4)]) (rest := []) f58_136 hS.o9 rfl rfl rfl rfl (q_fail (b := b) (n := n) (w := 4) hS hT.1 (by omega) ht) ?_
        rintro _ _ ⟨rfl, I1, rfl, ht1, hf1⟩
        exact k_vret f58_139 ⟨rfl, I1, rfl, hf1.fp, by rw [show clT b n (P, y, (c, cf), (m, mf), ln) q = .inl (1 + 8 * q + 4) from by unfold clT; rw [hk, if_neg (by decide), if_pos hTm]]; exact ht1⟩
  · refine k_aload f58_0 rfl ?_
    refine k_getr (q := 9) f58_1 hS.o11 rfl hR.r11_0 ?_
    refine k_ldc f58_4 ?_
    refine e_v (as := [.retAddr 5]) (rest := []) f58_6 hS.o9 rfl rfl rfl ((show zRn x (d + 5) 54 [.ref 9, .retAddr 5] (I, J, R, G) (some (.int 2)) (I, J, R, G) from by have h := s_which (x := x) (d := d + 1) (J := J) (k := 5) hR hS hT (by omega) ht; rw [hk] at h; exact h)) ?_
    refine k_istore (L' := [.ref 11, .ref pl, .int (2), zU]) f58_9 rfl rfl ?_
    refine k_iload f58_10 rfl ?_
    refine k_if_ne f58_11 (fun _ => ?_) (fun h_ => absurd (by decide) h_)
    refine k_iload f58_23 rfl ?_
    refine k_iconst (v := 1) f58_24 rfl ?_
    refine k_ic_ne f58_25 (fun _ => ?_) (fun h_ => absurd (by decide) h_)
    refine k_iconst (v := 0) f58_32 rfl ?_
    refine k_aload f58_33 rfl ?_
    refine k_gI (w := nI ln) f58_34 hS.o11 rfl l1 ?_
    refine k_if_ne f58_37 (fun g0 => ?_) (fun g0 => ?_)
    · refine k_iconst (v := 0) f58_44 rfl ?_
      refine k_ic_ne f58_45 (fun h_ => absurd (by decide) h_) (fun _ => ?_)
      refine k_aload f58_48 rfl ?_
      refine k_gI (w := nI ln) f58_49 hS.o11 rfl l1 ?_
      refine k_iconst (v := 40) f58_52 rfl ?_
      refine k_ic_lt f58_54 (fun g1 => ?_) (fun g1 => ?_)
      · refine k_iconst (v := 0) f58_61 rfl ?_
        refine k_istore (L' := [.ref 11, .ref pl, .int (2), .int (0)]) f58_62 rfl rfl ?_
        refine k_iload f58_63 rfl ?_
        refine k_iload f58_64 rfl ?_
        refine k_iconst (v := 2) f58_65 rfl ?_
        refine k_ic_ne f58_66 (fun h_ => absurd (by decide) h_) (fun _ => ?_)
        refine k_aload f58_69 rfl ?_
        refine k_gI (w := bI (0 < y)) f58_70 hS.o11 rfl l2 ?_
        refine k_if_eq f58_73 (fun g2 => ?_) (fun g2 => ?_)
        · refine k_iconst (v := 0) f58_80 rfl ?_
          refine k_ior f58_81 ?_
          rw [show (0 : Int32) ||| 0 = 0 from by decide]
          refine k_istore (L' := [.ref 11, .ref pl, .int (2), .int (0)]) f58_82 rfl rfl ?_
          refine k_iload f58_83 rfl ?_
          refine k_iload f58_84 rfl ?_
          refine k_iconst (v := 3) f58_85 rfl ?_
          refine k_ic_ne f58_86 (fun _ => ?_) (fun h_ => absurd (by decide) h_)
          refine k_iconst (v := 0) f58_102 rfl ?_
          refine k_ior f58_103 ?_
          rw [show (0 : Int32) ||| 0 = 0 from by decide]
          refine k_istore (L' := [.ref 11, .ref pl, .int (2), .int (0)]) f58_104 rfl rfl ?_
          refine k_iload f58_105 rfl ?_
          refine k_iload f58_106 rfl ?_
          refine k_iconst (v := 4) f58_107 rfl ?_
          refine k_ic_ne f58_108 (fun _ => ?_) (fun h_ => absurd (by decide) h_)
          refine k_iconst (v := 0) f58_124 rfl ?_
          refine k_ior f58_125 ?_
          rw [show (0 : Int32) ||| 0 = 0 from by decide]
          refine k_istore (L' := [.ref 11, .ref pl, .int (2), .int (0)]) f58_126 rfl rfl ?_
          refine k_iload f58_127 rfl ?_
          refine k_if_eq f58_128 (fun _ => ?_) (fun h_ => absurd (by decide) h_)
          have z0 : ¬ ln = 0 := fun z => g0 (congrArg nI z)
          have z1 : ln < 40 := (nI_ltI (b := 40) (by omega) (by omega)).mp g1
          have z2 : ¬ 0 < y := fun z => absurd ((bI_v1 z).symm.trans g2) (by decide)
          have hTm : ¬ tmB (P, y, (c, cf), (m, mf), ln) 2 = true := fun z => absurd (of_decide_eq_true z) (show ¬ (40 ≤ ln ∨ (2 = 1 ∧ 0 < P) ∨ (2 ≠ 1 ∧ P = 0) ∨ (2 = 2 ∧ 0 < y) ∨ (2 = 3 ∧ 8 ≤ c) ∨ (2 = 4 ∧ 24 ≤ m)) by omega)
          have hC : clT b n (P, y, (c, cf), (m, mf), ln) q = bdT b n 2 (P, y, (c, cf), (m, mf), ln) (wl b n q) := by unfold clT; rw [hk, if_neg (by decide), if_neg hTm]
          refine k_aload f58_140 rfl ?_
          refine k_dup f58_141 ?_
          refine k_gI (w := nI ln) f58_142 hS.o11 rfl l1 ?_
          refine k_iconst (v := 1) f58_145 rfl ?_
          refine k_iadd f58_146 ?_
          rw [nI_1 ln]
          refine k_putI f58_147 hS.o11 rfl ?_
          refine k_aload f58_150 rfl ?_
          refine k_getr (q := 9) f58_151 hS.o11 rfl hR.r11_0 ?_
          refine k_callv (as := []) (rest := []) f58_154 hS.o9 rfl rfl rfl rfl (q_next hR hS (hT.keep (fun k => z_u_p _ _ _ _ (by decide)) (fun k => z_u_p _ _ _ _ (by decide))) (ht.put (q := 11) (j := 1) (v := nI (ln + 1)) (by decide))) ?_
          rintro _ _ ⟨rfl, I2, rfl, ht2, hf2⟩
          have eL : ed b n q = wl b n q := if_pos (wh_isL (by rw [hk]; decide))
          obtain ⟨q1, eq1⟩ : ∃ q1, q1 = bk b n (wl b n q) := ⟨_, rfl⟩
          have ht2 : CX I2 b n (.inr q1) := by rw [eq1, ← eL]; exact ht2
          have hq1 : q1 ≤ n := ht2.2.2.2.2.2.2.2
          have i2 : ∀ p k, p ≠ 9 → ¬ (p = 11 ∧ k = 1) → I2 p k = I p k := fun p k h1 h2 => (hf2 p k h1).trans (z_u_no _ _ h2)
          have fp2 : FP pl I I2 := fun p k h1 h2 _ => i2 p k h1 (by omega)
          have hT2 : TP I2 b n := fp2.tp hpl hT
          have hw2 : TwC I2 R G pl (P, y, (c, cf), (m, mf), ln + 1) := by
            refine ⟨hP, hpl, (i2 _ _ (by omega) (by omega)).trans w0, (i2 _ _ (by omega) (by omega)).trans w1, (i2 _ _ (by omega) (by omega)).trans w2, (i2 _ _ (by omega) (by omega)).trans w3, fun i hi => ?_, fun i hi => ?_, (hf2 _ _ (by omega)).trans (z_u_same _ _ _ _), (i2 _ _ (by omega) (by omega)).trans wl2⟩
            · obtain ⟨x1, x2, x3⟩ := wc i hi
              exact ⟨(i2 _ _ (by omega) (by omega)).trans x1, (i2 _ _ (by omega) (by omega)).trans x2, (i2 _ _ (by omega) (by omega)).trans x3⟩
            · obtain ⟨x1, x2, x3, x4⟩ := wm i hi
              exact ⟨(i2 _ _ (by omega) (by omega)).trans x1, (i2 _ _ (by omega) (by omega)).trans x2, (i2 _ _ (by omega) (by omega)).trans x3, (i2 _ _ (by omega) (by omega)).trans x4⟩
          refine k_iload f58_157 rfl ?_
          refine k_tsin (t := 199) f58_158 (by decide) (by decide) rfl rfl ?_
          refine k_aload f58_199 rfl ?_
          refine k_iconst (v := 1) f58_200 rfl ?_
          refine k_putZ f58_201 hS.o11 rfl (Or.inr rfl) ?_
          refine k_aload f58_204 rfl ?_
          refine k_aload f58_205 rfl ?_
          refine k_iconst (v := 1) f58_206 rfl ?_
          refine k_iconst (v := 999) f58_207 rfl ?_
          refine k_iconst (v := (-1)) f58_210 rfl ?_
          refine k_callv (as := [.int ((-1)), .int (999), .int (1)]) (rest := [.ref pl]) f58_211 hS.o11 rfl rfl rfl rfl (q_rdN (lo := 1) (hi := 999) (no := (-1)) (t := .inr q1) hR hS (hT2.keep (fun k => z_u_p _ _ _ _ (by decide)) (fun k => z_u_p _ _ _ _ (by decide))) (ht2.put (q := 11) (j := 2) (v := 1) (by decide)) (by omega) (by omega)) ?_
          rintro _ _ ⟨rfl, I3, rfl, ht3, hf3⟩
          refine k_putI f58_214 hP.1 rfl ?_
          refine k_goto f58_217 ?_
          exact k_vret f58_233 ⟨rfl, _, rfl, ((fp2.put (q := 11) (j := 2) (v := 1) (by omega)).trans hf3.fp).put (by omega), by rw [hC]; exact fin_2 hq1 eq1 hw2 hf3 ht3⟩
        · refine k_iconst (v := 1) f58_76 rfl ?_
          refine k_goto f58_77 ?_
          refine k_ior f58_81 ?_
          rw [show (0 : Int32) ||| 1 = 1 from by decide]
          refine k_istore (L' := [.ref 11, .ref pl, .int (2), .int (1)]) f58_82 rfl rfl ?_
          refine k_iload f58_83 rfl ?_
          refine k_iload f58_84 rfl ?_
          refine k_iconst (v := 3) f58_85 rfl ?_
          refine k_ic_ne f58_86 (fun _ => ?_) (fun h_ => absurd (by decide) h_)
          refine k_iconst (v := 0) f58_102 rfl ?_
          refine k_ior f58_103 ?_
          rw [show (1 : Int32) ||| 0 = 1 from by decide]
          refine k_istore (L' := [.ref 11, .ref pl, .int (2), .int (1)]) f58_104 rfl rfl ?_
          refine k_iload f58_105 rfl ?_
          refine k_iload f58_106 rfl ?_
          refine k_iconst (v := 4) f58_107 rfl ?_
          refine k_ic_ne f58_108 (fun _ => ?_) (fun h_ => absurd (by decide) h_)
          refine k_iconst (v := 0) f58_124 rfl ?_
          refine k_ior f58_125 ?_
          rw [show (1 : Int32) ||| 0 = 1 from by decide]
          refine k_istore (L' := [.ref 11, .ref pl, .int (2), .int (1)]) f58_126 rfl rfl ?_
          refine k_iload f58_127 rfl ?_
          refine k_if_eq f58_128 (fun h_ => absurd h_ (by decide)) (fun _ => ?_)
          have z0 : ¬ ln = 0 := fun z => g0 (congrArg nI z)
          have z1 : ln < 40 := (nI_ltI (b := 40) (by omega) (by omega)).mp g1
          have z2 : 0 < y := Classical.byContradiction (fun z => g2 (bI_v0 z))
          have hTm : tmB (P, y, (c, cf), (m, mf), ln) 2 = true := decide_eq_true (show 40 ≤ ln ∨ (2 = 1 ∧ 0 < P) ∨ (2 ≠ 1 ∧ P = 0) ∨ (2 = 2 ∧ 0 < y) ∨ (2 = 3 ∧ 8 ≤ c) ∨ (2 = 4 ∧ 24 ≤ m) by omega)
          refine k_aload f58_131 rfl ?_
          refine k_getr (q := 9) f58_132 hS.o11 rfl hR.r11_0 ?_
          refine k_iconst (v := 4) f58_135 rfl ?_
          refine k_callv (as := [.int (4)]) (rest := []) f58_136 hS.o9 rfl rfl rfl rfl (q_fail (b := b) (n := n) (w := 4) hS hT.1 (by omega) ht) ?_
          rintro _ _ ⟨rfl, I1, rfl, ht1, hf1⟩
          exact k_vret f58_139 ⟨rfl, I1, rfl, hf1.fp, by rw [show clT b n (P, y, (c, cf), (m, mf), ln) q = .inl (1 + 8 * q + 4) from by unfold clT; rw [hk, if_neg (by decide), if_pos hTm]]; exact ht1⟩
      · refine k_iconst (v := 1) f58_57 rfl ?_
        refine k_goto f58_58 ?_
        refine k_istore (L' := [.ref 11, .ref pl, .int (2), .int (1)]) f58_62 rfl rfl ?_
        refine k_iload f58_63 rfl ?_
        refine k_iload f58_64 rfl ?_
        refine k_iconst (v := 2) f58_65 rfl ?_
        refine k_ic_ne f58_66 (fun h_ => absurd (by decide) h_) (fun _ => ?_)
        refine k_aload f58_69 rfl ?_
        refine k_gI (w := bI (0 < y)) f58_70 hS.o11 rfl l2 ?_
        refine k_if_eq f58_73 (fun g2 => ?_) (fun g2 => ?_)
        · refine k_iconst (v := 0) f58_80 rfl ?_
          refine k_ior f58_81 ?_
          rw [show (1 : Int32) ||| 0 = 1 from by decide]
          refine k_istore (L' := [.ref 11, .ref pl, .int (2), .int (1)]) f58_82 rfl rfl ?_
          refine k_iload f58_83 rfl ?_
          refine k_iload f58_84 rfl ?_
          refine k_iconst (v := 3) f58_85 rfl ?_
          refine k_ic_ne f58_86 (fun _ => ?_) (fun h_ => absurd (by decide) h_)
          refine k_iconst (v := 0) f58_102 rfl ?_
          refine k_ior f58_103 ?_
          rw [show (1 : Int32) ||| 0 = 1 from by decide]
          refine k_istore (L' := [.ref 11, .ref pl, .int (2), .int (1)]) f58_104 rfl rfl ?_
          refine k_iload f58_105 rfl ?_
          refine k_iload f58_106 rfl ?_
          refine k_iconst (v := 4) f58_107 rfl ?_
          refine k_ic_ne f58_108 (fun _ => ?_) (fun h_ => absurd (by decide) h_)
          refine k_iconst (v := 0) f58_124 rfl ?_
          refine k_ior f58_125 ?_
          rw [show (1 : Int32) ||| 0 = 1 from by decide]
          refine k_istore (L' := [.ref 11, .ref pl, .int (2), .int (1)]) f58_126 rfl rfl ?_
          refine k_iload f58_127 rfl ?_
          refine k_if_eq f58_128 (fun h_ => absurd h_ (by decide)) (fun _ => ?_)
          have z0 : ¬ ln = 0 := fun z => g0 (congrArg nI z)
          have z1 : ¬ ln < 40 := fun z => g1 ((nI_ltI (b := 40) (by omega) (by omega)).mpr z)
          have z2 : ¬ 0 < y := fun z => absurd ((bI_v1 z).symm.trans g2) (by decide)
          have hTm : tmB (P, y, (c, cf), (m, mf), ln) 2 = true := decide_eq_true (show 40 ≤ ln ∨ (2 = 1 ∧ 0 < P) ∨ (2 ≠ 1 ∧ P = 0) ∨ (2 = 2 ∧ 0 < y) ∨ (2 = 3 ∧ 8 ≤ c) ∨ (2 = 4 ∧ 24 ≤ m) by omega)
          refine k_aload f58_131 rfl ?_
          refine k_getr (q := 9) f58_132 hS.o11 rfl hR.r11_0 ?_
          refine k_iconst (v := 4) f58_135 rfl ?_
          refine k_callv (as := [.int (4)]) (rest := []) f58_136 hS.o9 rfl rfl rfl rfl (q_fail (b := b) (n := n) (w := 4) hS hT.1 (by omega) ht) ?_
          rintro _ _ ⟨rfl, I1, rfl, ht1, hf1⟩
          exact k_vret f58_139 ⟨rfl, I1, rfl, hf1.fp, by rw [show clT b n (P, y, (c, cf), (m, mf), ln) q = .inl (1 + 8 * q + 4) from by unfold clT; rw [hk, if_neg (by decide), if_pos hTm]]; exact ht1⟩
        · refine k_iconst (v := 1) f58_76 rfl ?_
          refine k_goto f58_77 ?_
          refine k_ior f58_81 ?_
          rw [show (1 : Int32) ||| 1 = 1 from by decide]
          refine k_istore (L' := [.ref 11, .ref pl, .int (2), .int (1)]) f58_82 rfl rfl ?_
          refine k_iload f58_83 rfl ?_
          refine k_iload f58_84 rfl ?_
          refine k_iconst (v := 3) f58_85 rfl ?_
          refine k_ic_ne f58_86 (fun _ => ?_) (fun h_ => absurd (by decide) h_)
          refine k_iconst (v := 0) f58_102 rfl ?_
          refine k_ior f58_103 ?_
          rw [show (1 : Int32) ||| 0 = 1 from by decide]
          refine k_istore (L' := [.ref 11, .ref pl, .int (2), .int (1)]) f58_104 rfl rfl ?_
          refine k_iload f58_105 rfl ?_
          refine k_iload f58_106 rfl ?_
          refine k_iconst (v := 4) f58_107 rfl ?_
          refine k_ic_ne f58_108 (fun _ => ?_) (fun h_ => absurd (by decide) h_)
          refine k_iconst (v := 0) f58_124 rfl ?_
          refine k_ior f58_125 ?_
          rw [show (1 : Int32) ||| 0 = 1 from by decide]
          refine k_istore (L' := [.ref 11, .ref pl, .int (2), .int (1)]) f58_126 rfl rfl ?_
          refine k_iload f58_127 rfl ?_
          refine k_if_eq f58_128 (fun h_ => absurd h_ (by decide)) (fun _ => ?_)
          have z0 : ¬ ln = 0 := fun z => g0 (congrArg nI z)
          have z1 : ¬ ln < 40 := fun z => g1 ((nI_ltI (b := 40) (by omega) (by omega)).mpr z)
          have z2 : 0 < y := Classical.byContradiction (fun z => g2 (bI_v0 z))
          have hTm : tmB (P, y, (c, cf), (m, mf), ln) 2 = true := decide_eq_true (show 40 ≤ ln ∨ (2 = 1 ∧ 0 < P) ∨ (2 ≠ 1 ∧ P = 0) ∨ (2 = 2 ∧ 0 < y) ∨ (2 = 3 ∧ 8 ≤ c) ∨ (2 = 4 ∧ 24 ≤ m) by omega)
          refine k_aload f58_131 rfl ?_
          refine k_getr (q := 9) f58_132 hS.o11 rfl hR.r11_0 ?_
          refine k_iconst (v := 4) f58_135 rfl ?_
          refine k_callv (as := [.int (4)]) (rest := []) f58_136 hS.o9 rfl rfl rfl rfl (q_fail (b := b) (n := n) (w := 4) hS hT.1 (by omega) ht) ?_
          rintro _ _ ⟨rfl, I1, rfl, ht1, hf1⟩
          exact k_vret f58_139 ⟨rfl, I1, rfl, hf1.fp, by rw [show clT b n (P, y, (c, cf), (m, mf), ln) q = .inl (1 + 8 * q + 4) from by unfold clT; rw [hk, if_neg (by decide), if_pos hTm]]; exact ht1⟩
    · refine k_iconst (v := 1) f58_40 rfl ?_
      refine k_goto f58_41 ?_
      refine k_ic_ne f58_45 (fun _ => ?_) (fun h_ => absurd (by decide) h_)
      refine k_iconst (v := 1) f58_57 rfl ?_
      refine k_goto f58_58 ?_
      refine k_istore (L' := [.ref 11, .ref pl, .int (2), .int (1)]) f58_62 rfl rfl ?_
      refine k_iload f58_63 rfl ?_
      refine k_iload f58_64 rfl ?_
      refine k_iconst (v := 2) f58_65 rfl ?_
      refine k_ic_ne f58_66 (fun h_ => absurd (by decide) h_) (fun _ => ?_)
      refine k_aload f58_69 rfl ?_
      refine k_gI (w := bI (0 < y)) f58_70 hS.o11 rfl l2 ?_
      refine k_if_eq f58_73 (fun g1 => ?_) (fun g1 => ?_)
      · refine k_iconst (v := 0) f58_80 rfl ?_
        refine k_ior f58_81 ?_
        rw [show (1 : Int32) ||| 0 = 1 from by decide]
        refine k_istore (L' := [.ref 11, .ref pl, .int (2), .int (1)]) f58_82 rfl rfl ?_
        refine k_iload f58_83 rfl ?_
        refine k_iload f58_84 rfl ?_
        refine k_iconst (v := 3) f58_85 rfl ?_
        refine k_ic_ne f58_86 (fun _ => ?_) (fun h_ => absurd (by decide) h_)
        refine k_iconst (v := 0) f58_102 rfl ?_
        refine k_ior f58_103 ?_
        rw [show (1 : Int32) ||| 0 = 1 from by decide]
        refine k_istore (L' := [.ref 11, .ref pl, .int (2), .int (1)]) f58_104 rfl rfl ?_
        refine k_iload f58_105 rfl ?_
        refine k_iload f58_106 rfl ?_
        refine k_iconst (v := 4) f58_107 rfl ?_
        refine k_ic_ne f58_108 (fun _ => ?_) (fun h_ => absurd (by decide) h_)
        refine k_iconst (v := 0) f58_124 rfl ?_
        refine k_ior f58_125 ?_
        rw [show (1 : Int32) ||| 0 = 1 from by decide]
        refine k_istore (L' := [.ref 11, .ref pl, .int (2), .int (1)]) f58_126 rfl rfl ?_
        refine k_iload f58_127 rfl ?_
        refine k_if_eq f58_128 (fun h_ => absurd h_ (by decide)) (fun _ => ?_)
        have z0 : ln = 0 := (nI_eq (b := 0) (by omega) (by omega)).mp (Classical.not_not.mp g0)
        have z1 : ¬ 0 < y := fun z => absurd ((bI_v1 z).symm.trans g1) (by decide)
        have hTm : tmB (P, y, (c, cf), (m, mf), ln) 2 = true := decide_eq_true (show 40 ≤ ln ∨ (2 = 1 ∧ 0 < P) ∨ (2 ≠ 1 ∧ P = 0) ∨ (2 = 2 ∧ 0 < y) ∨ (2 = 3 ∧ 8 ≤ c) ∨ (2 = 4 ∧ 24 ≤ m) by omega)
        refine k_aload f58_131 rfl ?_
        refine k_getr (q := 9) f58_132 hS.o11 rfl hR.r11_0 ?_
        refine k_iconst (v := 4) f58_135 rfl ?_
        refine k_callv (as := [.int (4)]) (rest := []) f58_136 hS.o9 rfl rfl rfl rfl (q_fail (b := b) (n := n) (w := 4) hS hT.1 (by omega) ht) ?_
        rintro _ _ ⟨rfl, I1, rfl, ht1, hf1⟩
        exact k_vret f58_139 ⟨rfl, I1, rfl, hf1.fp, by rw [show clT b n (P, y, (c, cf), (m, mf), ln) q = .inl (1 + 8 * q + 4) from by unfold clT; rw [hk, if_neg (by decide), if_pos hTm]]; exact ht1⟩
      · refine k_iconst (v := 1) f58_76 rfl ?_
        refine k_goto f58_77 ?_
        refine k_ior f58_81 ?_
        rw [show (1 : Int32) ||| 1 = 1 from by decide]
        refine k_istore (L' := [.ref 11, .ref pl, .int (2), .int (1)]) f58_82 rfl rfl ?_
        refine k_iload f58_83 rfl ?_
        refine k_iload f58_84 rfl ?_
        refine k_iconst (v := 3) f58_85 rfl ?_
        refine k_ic_ne f58_86 (fun _ => ?_) (fun h_ => absurd (by decide) h_)
        refine k_iconst (v := 0) f58_102 rfl ?_
        refine k_ior f58_103 ?_
        rw [show (1 : Int32) ||| 0 = 1 from by decide]
        refine k_istore (L' := [.ref 11, .ref pl, .int (2), .int (1)]) f58_104 rfl rfl ?_
        refine k_iload f58_105 rfl ?_
        refine k_iload f58_106 rfl ?_
        refine k_iconst (v := 4) f58_107 rfl ?_
        refine k_ic_ne f58_108 (fun _ => ?_) (fun h_ => absurd (by decide) h_)
        refine k_iconst (v := 0) f58_124 rfl ?_
        refine k_ior f58_125 ?_
        rw [show (1 : Int32) ||| 0 = 1 from by decide]
        refine k_istore (L' := [.ref 11, .ref pl, .int (2), .int (1)]) f58_126 rfl rfl ?_
        refine k_iload f58_127 rfl ?_
        refine k_if_eq f58_128 (fun h_ => absurd h_ (by decide)) (fun _ => ?_)
        have z0 : ln = 0 := (nI_eq (b := 0) (by omega) (by omega)).mp (Classical.not_not.mp g0)
        have z1 : 0 < y := Classical.byContradiction (fun z => g1 (bI_v0 z))
        have hTm : tmB (P, y, (c, cf), (m, mf), ln) 2 = true := decide_eq_true (show 40 ≤ ln ∨ (2 = 1 ∧ 0 < P) ∨ (2 ≠ 1 ∧ P = 0) ∨ (2 = 2 ∧ 0 < y) ∨ (2 = 3 ∧ 8 ≤ c) ∨ (2 = 4 ∧ 24 ≤ m) by omega)
        refine k_aload f58_131 rfl ?_
        refine k_getr (q := 9) f58_132 hS.o11 rfl hR.r11_0 ?_
        refine k_iconst (v := 4) f58_135 rfl ?_
        refine k_callv (as := [.int (4)]) (rest := []) f58_136 hS.o9 rfl rfl rfl rfl (q_fail (b := b) (n := n) (w := 4) hS hT.1 (by omega) ht) ?_
        rintro _ _ ⟨rfl, I1, rfl, ht1, hf1⟩
        exact k_vret f58_139 ⟨rfl, I1, rfl, hf1.fp, by rw [show clT b n (P, y, (c, cf), (m, mf), ln) q = .inl (1 + 8 * q + 4) from by unfold clT; rw [hk, if_neg (by decide), if_pos hTm]]; exact ht1⟩
  · refine k_aload f58_0 rfl ?_
    refine k_getr (q := 9) f58_1 hS.o11 rfl hR.r11_0 ?_
    refine k_ldc f58_4 ?_
    refine e_v (as := [.retAddr 5]) (rest := []) f58_6 hS.o9 rfl rfl rfl ((show zRn x (d + 5) 54 [.ref 9, .retAddr 5] (I, J, R, G) (some (.int 3)) (I, J, R, G) from by have h := s_which (x := x) (d := d + 1) (J := J) (k := 5) hR hS hT (by omega) ht; rw [hk] at h; exact h)) ?_
    refine k_istore (L' := [.ref 11, .ref pl, .int (3), zU]) f58_9 rfl rfl ?_
    refine k_iload f58_10 rfl ?_
    refine k_if_ne f58_11 (fun _ => ?_) (fun h_ => absurd (by decide) h_)
    refine k_iload f58_23 rfl ?_
    refine k_iconst (v := 1) f58_24 rfl ?_
    refine k_ic_ne f58_25 (fun _ => ?_) (fun h_ => absurd (by decide) h_)
    refine k_iconst (v := 0) f58_32 rfl ?_
    refine k_aload f58_33 rfl ?_
    refine k_gI (w := nI ln) f58_34 hS.o11 rfl l1 ?_
    refine k_if_ne f58_37 (fun g0 => ?_) (fun g0 => ?_)
    · refine k_iconst (v := 0) f58_44 rfl ?_
      refine k_ic_ne f58_45 (fun h_ => absurd (by decide) h_) (fun _ => ?_)
      refine k_aload f58_48 rfl ?_
      refine k_gI (w := nI ln) f58_49 hS.o11 rfl l1 ?_
      refine k_iconst (v := 40) f58_52 rfl ?_
      refine k_ic_lt f58_54 (fun g1 => ?_) (fun g1 => ?_)
      · refine k_iconst (v := 0) f58_61 rfl ?_
        refine k_istore (L' := [.ref 11, .ref pl, .int (3), .int (0)]) f58_62 rfl rfl ?_
        refine k_iload f58_63 rfl ?_
        refine k_iload f58_64 rfl ?_
        refine k_iconst (v := 2) f58_65 rfl ?_
        refine k_ic_ne f58_66 (fun _ => ?_) (fun h_ => absurd (by decide) h_)
        refine k_iconst (v := 0) f58_80 rfl ?_
        refine k_ior f58_81 ?_
        rw [show (0 : Int32) ||| 0 = 0 from by decide]
        refine k_istore (L' := [.ref 11, .ref pl, .int (3), .int (0)]) f58_82 rfl rfl ?_
        refine k_iload f58_83 rfl ?_
        refine k_iload f58_84 rfl ?_
        refine k_iconst (v := 3) f58_85 rfl ?_
        refine k_ic_ne f58_86 (fun h_ => absurd (by decide) h_) (fun _ => ?_)
        refine k_aload f58_89 rfl ?_
        refine k_gI (w := nI c) f58_90 hP.1 rfl e2 ?_
        refine k_iconst (v := 8) f58_93 rfl ?_
        refine k_ic_lt f58_95 (fun g2 => ?_) (fun g2 => ?_)
        · refine k_iconst (v := 0) f58_102 rfl ?_
          refine k_ior f58_103 ?_
          rw [show (0 : Int32) ||| 0 = 0 from by decide]
          refine k_istore (L' := [.ref 11, .ref pl, .int (3), .int (0)]) f58_104 rfl rfl ?_
          refine k_iload f58_105 rfl ?_
          refine k_iload f58_106 rfl ?_
          refine k_iconst (v := 4) f58_107 rfl ?_
          refine k_ic_ne f58_108 (fun _ => ?_) (fun h_ => absurd (by decide) h_)
          refine k_iconst (v := 0) f58_124 rfl ?_
          refine k_ior f58_125 ?_
          rw [show (0 : Int32) ||| 0 = 0 from by decide]
          refine k_istore (L' := [.ref 11, .ref pl, .int (3), .int (0)]) f58_126 rfl rfl ?_
          refine k_iload f58_127 rfl ?_
          refine k_if_eq f58_128 (fun _ => ?_) (fun h_ => absurd (by decide) h_)
          have z0 : ¬ ln = 0 := fun z => g0 (congrArg nI z)
          have z1 : ln < 40 := (nI_ltI (b := 40) (by omega) (by omega)).mp g1
          have z2 : c < 8 := (nI_ltI (b := 8) (by omega) (by omega)).mp g2
          have hTm : ¬ tmB (P, y, (c, cf), (m, mf), ln) 3 = true := fun z => absurd (of_decide_eq_true z) (show ¬ (40 ≤ ln ∨ (3 = 1 ∧ 0 < P) ∨ (3 ≠ 1 ∧ P = 0) ∨ (3 = 2 ∧ 0 < y) ∨ (3 = 3 ∧ 8 ≤ c) ∨ (3 = 4 ∧ 24 ≤ m)) by omega)
          have hC : clT b n (P, y, (c, cf), (m, mf), ln) q = bdT b n 3 (P, y, (c, cf), (m, mf), ln) (wl b n q) := by unfold clT; rw [hk, if_neg (by decide), if_neg hTm]
          refine k_aload f58_140 rfl ?_
          refine k_dup f58_141 ?_
          refine k_gI (w := nI ln) f58_142 hS.o11 rfl l1 ?_
          refine k_iconst (v := 1) f58_145 rfl ?_
          refine k_iadd f58_146 ?_
          rw [nI_1 ln]
          refine k_putI f58_147 hS.o11 rfl ?_
          refine k_aload f58_150 rfl ?_
          refine k_getr (q := 9) f58_151 hS.o11 rfl hR.r11_0 ?_
          refine k_callv (as := []) (rest := []) f58_154 hS.o9 rfl rfl rfl rfl (q_next hR hS (hT.keep (fun k => z_u_p _ _ _ _ (by decide)) (fun k => z_u_p _ _ _ _ (by decide))) (ht.put (q := 11) (j := 1) (v := nI (ln + 1)) (by decide))) ?_
          rintro _ _ ⟨rfl, I2, rfl, ht2, hf2⟩
          have eL : ed b n q = wl b n q := if_pos (wh_isL (by rw [hk]; decide))
          obtain ⟨q1, eq1⟩ : ∃ q1, q1 = bk b n (wl b n q) := ⟨_, rfl⟩
          have ht2 : CX I2 b n (.inr q1) := by rw [eq1, ← eL]; exact ht2
          have hq1 : q1 ≤ n := ht2.2.2.2.2.2.2.2
          have i2 : ∀ p k, p ≠ 9 → ¬ (p = 11 ∧ k = 1) → I2 p k = I p k := fun p k h1 h2 => (hf2 p k h1).trans (z_u_no _ _ h2)
          have fp2 : FP pl I I2 := fun p k h1 h2 _ => i2 p k h1 (by omega)
          have hT2 : TP I2 b n := fp2.tp hpl hT
          have hw2 : TwC I2 R G pl (P, y, (c, cf), (m, mf), ln + 1) := by
            refine ⟨hP, hpl, (i2 _ _ (by omega) (by omega)).trans w0, (i2 _ _ (by omega) (by omega)).trans w1, (i2 _ _ (by omega) (by omega)).trans w2, (i2 _ _ (by omega) (by omega)).trans w3, fun i hi => ?_, fun i hi => ?_, (hf2 _ _ (by omega)).trans (z_u_same _ _ _ _), (i2 _ _ (by omega) (by omega)).trans wl2⟩
            · obtain ⟨x1, x2, x3⟩ := wc i hi
              exact ⟨(i2 _ _ (by omega) (by omega)).trans x1, (i2 _ _ (by omega) (by omega)).trans x2, (i2 _ _ (by omega) (by omega)).trans x3⟩
            · obtain ⟨x1, x2, x3, x4⟩ := wm i hi
              exact ⟨(i2 _ _ (by omega) (by omega)).trans x1, (i2 _ _ (by omega) (by omega)).trans x2, (i2 _ _ (by omega) (by omega)).trans x3, (i2 _ _ (by omega) (by omega)).trans x4⟩
          refine k_iload f58_157 rfl ?_
          refine k_tsin (t := 220) f58_158 (by decide) (by decide) rfl rfl ?_
          refine k_aload f58_220 rfl ?_
          refine k_aload f58_221 rfl ?_
          refine k_callv (as := [.ref pl]) (rest := []) f58_222 hS.o11 rfl rfl rfl rfl (q_rdCoin (P := P) (c := c) (q := q1) hR hS hT2 ht2 hP hpl ((i2 _ _ (by omega) (by omega)).trans e0) (by omega) o2 ((i2 _ _ (by omega) (by omega)).trans e2) (by omega)) ?_
          rintro _ _ ⟨rfl, I3, rfl, hf3, ht3⟩
          obtain ⟨I4, eI4⟩ : ∃ I4, I4 = z_u (z_u (z_u (z_u I3 (pl + 1) c (rdN b n 1 99 (-1) (.inr q1)).1) (pl + 2) c (rdN b n 0 (P - 1) (-1) (rdN b n 1 99 (-1) (.inr q1)).2).1) (pl + 3) c (rdN b n 0 999 (-1) (rdN b n 0 (P - 1) (-1) (rdN b n 1 99 (-1) (.inr q1)).2).2).1) pl 2 (nI (c + 1)) := ⟨_, rfl⟩
          rw [← eI4]
          refine k_goto f58_225 ?_
          exact k_vret f58_233 ⟨rfl, I4, rfl, by rw [eI4]; exact ((((fp2.trans hf3.fp).put (by omega)).put (by omega)).put (by omega)).put (by omega), by rw [hC, eI4]; exact fin_3 hq1 eq1 hw2 hf3 o2 ht3⟩
        · refine k_iconst (v := 1) f58_98 rfl ?_
          refine k_goto f58_99 ?_
          refine k_ior f58_103 ?_
          rw [show (0 : Int32) ||| 1 = 1 from by decide]
          refine k_istore (L' := [.ref 11, .ref pl, .int (3), .int (1)]) f58_104 rfl rfl ?_
          refine k_iload f58_105 rfl ?_
          refine k_iload f58_106 rfl ?_
          refine k_iconst (v := 4) f58_107 rfl ?_
          refine k_ic_ne f58_108 (fun _ => ?_) (fun h_ => absurd (by decide) h_)
          refine k_iconst (v := 0) f58_124 rfl ?_
          refine k_ior f58_125 ?_
          rw [show (1 : Int32) ||| 0 = 1 from by decide]
          refine k_istore (L' := [.ref 11, .ref pl, .int (3), .int (1)]) f58_126 rfl rfl ?_
          refine k_iload f58_127 rfl ?_
          refine k_if_eq f58_128 (fun h_ => absurd h_ (by decide)) (fun _ => ?_)
          have z0 : ¬ ln = 0 := fun z => g0 (congrArg nI z)
          have z1 : ln < 40 := (nI_ltI (b := 40) (by omega) (by omega)).mp g1
          have z2 : ¬ c < 8 := fun z => g2 ((nI_ltI (b := 8) (by omega) (by omega)).mpr z)
          have hTm : tmB (P, y, (c, cf), (m, mf), ln) 3 = true := decide_eq_true (show 40 ≤ ln ∨ (3 = 1 ∧ 0 < P) ∨ (3 ≠ 1 ∧ P = 0) ∨ (3 = 2 ∧ 0 < y) ∨ (3 = 3 ∧ 8 ≤ c) ∨ (3 = 4 ∧ 24 ≤ m) by omega)
          refine k_aload f58_131 rfl ?_
          refine k_getr (q := 9) f58_132 hS.o11 rfl hR.r11_0 ?_
          refine k_iconst (v := 4) f58_135 rfl ?_
          refine k_callv (as := [.int (4)]) (rest := []) f58_136 hS.o9 rfl rfl rfl rfl (q_fail (b := b) (n := n) (w := 4) hS hT.1 (by omega) ht) ?_
          rintro _ _ ⟨rfl, I1, rfl, ht1, hf1⟩
          exact k_vret f58_139 ⟨rfl, I1, rfl, hf1.fp, by rw [show clT b n (P, y, (c, cf), (m, mf), ln) q = .inl (1 + 8 * q + 4) from by unfold clT; rw [hk, if_neg (by decide), if_pos hTm]]; exact ht1⟩
      · refine k_iconst (v := 1) f58_57 rfl ?_
        refine k_goto f58_58 ?_
        refine k_istore (L' := [.ref 11, .ref pl, .int (3), .int (1)]) f58_62 rfl rfl ?_
        refine k_iload f58_63 rfl ?_
        refine k_iload f58_64 rfl ?_
        refine k_iconst (v := 2) f58_65 rfl ?_
        refine k_ic_ne f58_66 (fun _ => ?_) (fun h_ => absurd (by decide) h_)
        refine k_iconst (v := 0) f58_80 rfl ?_
        refine k_ior f58_81 ?_
        rw [show (1 : Int32) ||| 0 = 1 from by decide]
        refine k_istore (L' := [.ref 11, .ref pl, .int (3), .int (1)]) f58_82 rfl rfl ?_
        refine k_iload f58_83 rfl ?_
        refine k_iload f58_84 rfl ?_
        refine k_iconst (v := 3) f58_85 rfl ?_
        refine k_ic_ne f58_86 (fun h_ => absurd (by decide) h_) (fun _ => ?_)
        refine k_aload f58_89 rfl ?_
        refine k_gI (w := nI c) f58_90 hP.1 rfl e2 ?_
        refine k_iconst (v := 8) f58_93 rfl ?_
        refine k_ic_lt f58_95 (fun g2 => ?_) (fun g2 => ?_)
        · refine k_iconst (v := 0) f58_102 rfl ?_
          refine k_ior f58_103 ?_
          rw [show (1 : Int32) ||| 0 = 1 from by decide]
          refine k_istore (L' := [.ref 11, .ref pl, .int (3), .int (1)]) f58_104 rfl rfl ?_
          refine k_iload f58_105 rfl ?_
          refine k_iload f58_106 rfl ?_
          refine k_iconst (v := 4) f58_107 rfl ?_
          refine k_ic_ne f58_108 (fun _ => ?_) (fun h_ => absurd (by decide) h_)
          refine k_iconst (v := 0) f58_124 rfl ?_
          refine k_ior f58_125 ?_
          rw [show (1 : Int32) ||| 0 = 1 from by decide]
          refine k_istore (L' := [.ref 11, .ref pl, .int (3), .int (1)]) f58_126 rfl rfl ?_
          refine k_iload f58_127 rfl ?_
          refine k_if_eq f58_128 (fun h_ => absurd h_ (by decide)) (fun _ => ?_)
          have z0 : ¬ ln = 0 := fun z => g0 (congrArg nI z)
          have z1 : ¬ ln < 40 := fun z => g1 ((nI_ltI (b := 40) (by omega) (by omega)).mpr z)
          have z2 : c < 8 := (nI_ltI (b := 8) (by omega) (by omega)).mp g2
          have hTm : tmB (P, y, (c, cf), (m, mf), ln) 3 = true := decide_eq_true (show 40 ≤ ln ∨ (3 = 1 ∧ 0 < P) ∨ (3 ≠ 1 ∧ P = 0) ∨ (3 = 2 ∧ 0 < y) ∨ (3 = 3 ∧ 8 ≤ c) ∨ (3 = 4 ∧ 24 ≤ m) by omega)
          refine k_aload f58_131 rfl ?_
          refine k_getr (q := 9) f58_132 hS.o11 rfl hR.r11_0 ?_
          refine k_iconst (v := 4) f58_135 rfl ?_
          refine k_callv (as := [.int (4)]) (rest := []) f58_136 hS.o9 rfl rfl rfl rfl (q_fail (b := b) (n := n) (w := 4) hS hT.1 (by omega) ht) ?_
          rintro _ _ ⟨rfl, I1, rfl, ht1, hf1⟩
          exact k_vret f58_139 ⟨rfl, I1, rfl, hf1.fp, by rw [show clT b n (P, y, (c, cf), (m, mf), ln) q = .inl (1 + 8 * q + 4) from by unfold clT; rw [hk, if_neg (by decide), if_pos hTm]]; exact ht1⟩
        · refine k_iconst (v := 1) f58_98 rfl ?_
          refine k_goto f58_99 ?_
          refine k_ior f58_103 ?_
          rw [show (1 : Int32) ||| 1 = 1 from by decide]
          refine k_istore (L' := [.ref 11, .ref pl, .int (3), .int (1)]) f58_104 rfl rfl ?_
          refine k_iload f58_105 rfl ?_
          refine k_iload f58_106 rfl ?_
          refine k_iconst (v := 4) f58_107 rfl ?_
          refine k_ic_ne f58_108 (fun _ => ?_) (fun h_ => absurd (by decide) h_)
          refine k_iconst (v := 0) f58_124 rfl ?_
          refine k_ior f58_125 ?_
          rw [show (1 : Int32) ||| 0 = 1 from by decide]
          refine k_istore (L' := [.ref 11, .ref pl, .int (3), .int (1)]) f58_126 rfl rfl ?_
          refine k_iload f58_127 rfl ?_
          refine k_if_eq f58_128 (fun h_ => absurd h_ (by decide)) (fun _ => ?_)
          have z0 : ¬ ln = 0 := fun z => g0 (congrArg nI z)
          have z1 : ¬ ln < 40 := fun z => g1 ((nI_ltI (b := 40) (by omega) (by omega)).mpr z)
          have z2 : ¬ c < 8 := fun z => g2 ((nI_ltI (b := 8) (by omega) (by omega)).mpr z)
          have hTm : tmB (P, y, (c, cf), (m, mf), ln) 3 = true := decide_eq_true (show 40 ≤ ln ∨ (3 = 1 ∧ 0 < P) ∨ (3 ≠ 1 ∧ P = 0) ∨ (3 = 2 ∧ 0 < y) ∨ (3 = 3 ∧ 8 ≤ c) ∨ (3 = 4 ∧ 24 ≤ m) by omega)
          refine k_aload f58_131 rfl ?_
          refine k_getr (q := 9) f58_132 hS.o11 rfl hR.r11_0 ?_
          refine k_iconst (v := 4) f58_135 rfl ?_
          refine k_callv (as := [.int (4)]) (rest := []) f58_136 hS.o9 rfl rfl rfl rfl (q_fail (b := b) (n := n) (w := 4) hS hT.1 (by omega) ht) ?_
          rintro _ _ ⟨rfl, I1, rfl, ht1, hf1⟩
          exact k_vret f58_139 ⟨rfl, I1, rfl, hf1.fp, by rw [show clT b n (P, y, (c, cf), (m, mf), ln) q = .inl (1 + 8 * q + 4) from by unfold clT; rw [hk, if_neg (by decide), if_pos hTm]]; exact ht1⟩
    · refine k_iconst (v := 1) f58_40 rfl ?_
      refine k_goto f58_41 ?_
      refine k_ic_ne f58_45 (fun _ => ?_) (fun h_ => absurd (by decide) h_)
      refine k_iconst (v := 1) f58_57 rfl ?_
      refine k_goto f58_58 ?_
      refine k_istore (L' := [.ref 11, .ref pl, .int (3), .int (1)]) f58_62 rfl rfl ?_
      refine k_iload f58_63 rfl ?_
      refine k_iload f58_64 rfl ?_
      refine k_iconst (v := 2) f58_65 rfl ?_
      refine k_ic_ne f58_66 (fun _ => ?_) (fun h_ => absurd (by decide) h_)
      refine k_iconst (v := 0) f58_80 rfl ?_
      refine k_ior f58_81 ?_
      rw [show (1 : Int32) ||| 0 = 1 from by decide]
      refine k_istore (L' := [.ref 11, .ref pl, .int (3), .int (1)]) f58_82 rfl rfl ?_
      refine k_iload f58_83 rfl ?_
      refine k_iload f58_84 rfl ?_
      refine k_iconst (v := 3) f58_85 rfl ?_
      refine k_ic_ne f58_86 (fun h_ => absurd (by decide) h_) (fun _ => ?_)
      refine k_aload f58_89 rfl ?_
      refine k_gI (w := nI c) f58_90 hP.1 rfl e2 ?_
      refine k_iconst (v := 8) f58_93 rfl ?_
      refine k_ic_lt f58_95 (fun g1 => ?_) (fun g1 => ?_)
      · refine k_iconst (v := 0) f58_102 rfl ?_
        refine k_ior f58_103 ?_
        rw [show (1 : Int32) ||| 0 = 1 from by decide]
        refine k_istore (L' := [.ref 11, .ref pl, .int (3), .int (1)]) f58_104 rfl rfl ?_
        refine k_iload f58_105 rfl ?_
        refine k_iload f58_106 rfl ?_
        refine k_iconst (v := 4) f58_107 rfl ?_
        refine k_ic_ne f58_108 (fun _ => ?_) (fun h_ => absurd (by decide) h_)
        refine k_iconst (v := 0) f58_124 rfl ?_
        refine k_ior f58_125 ?_
        rw [show (1 : Int32) ||| 0 = 1 from by decide]
        refine k_istore (L' := [.ref 11, .ref pl, .int (3), .int (1)]) f58_126 rfl rfl ?_
        refine k_iload f58_127 rfl ?_
        refine k_if_eq f58_128 (fun h_ => absurd h_ (by decide)) (fun _ => ?_)
        have z0 : ln = 0 := (nI_eq (b := 0) (by omega) (by omega)).mp (Classical.not_not.mp g0)
        have z1 : c < 8 := (nI_ltI (b := 8) (by omega) (by omega)).mp g1
        have hTm : tmB (P, y, (c, cf), (m, mf), ln) 3 = true := decide_eq_true (show 40 ≤ ln ∨ (3 = 1 ∧ 0 < P) ∨ (3 ≠ 1 ∧ P = 0) ∨ (3 = 2 ∧ 0 < y) ∨ (3 = 3 ∧ 8 ≤ c) ∨ (3 = 4 ∧ 24 ≤ m) by omega)
        refine k_aload f58_131 rfl ?_
        refine k_getr (q := 9) f58_132 hS.o11 rfl hR.r11_0 ?_
        refine k_iconst (v := 4) f58_135 rfl ?_
        refine k_callv (as := [.int (4)]) (rest := []) f58_136 hS.o9 rfl rfl rfl rfl (q_fail (b := b) (n := n) (w := 4) hS hT.1 (by omega) ht) ?_
        rintro _ _ ⟨rfl, I1, rfl, ht1, hf1⟩
        exact k_vret f58_139 ⟨rfl, I1, rfl, hf1.fp, by rw [show clT b n (P, y, (c, cf), (m, mf), ln) q = .inl (1 + 8 * q + 4) from by unfold clT; rw [hk, if_neg (by decide), if_pos hTm]]; exact ht1⟩
      · refine k_iconst (v := 1) f58_98 rfl ?_
        refine k_goto f58_99 ?_
        refine k_ior f58_103 ?_
        rw [show (1 : Int32) ||| 1 = 1 from by decide]
        refine k_istore (L' := [.ref 11, .ref pl, .int (3), .int (1)]) f58_104 rfl rfl ?_
        refine k_iload f58_105 rfl ?_
        refine k_iload f58_106 rfl ?_
        refine k_iconst (v := 4) f58_107 rfl ?_
        refine k_ic_ne f58_108 (fun _ => ?_) (fun h_ => absurd (by decide) h_)
        refine k_iconst (v := 0) f58_124 rfl ?_
        refine k_ior f58_125 ?_
        rw [show (1 : Int32) ||| 0 = 1 from by decide]
        refine k_istore (L' := [.ref 11, .ref pl, .int (3), .int (1)]) f58_126 rfl rfl ?_
        refine k_iload f58_127 rfl ?_
        refine k_if_eq f58_128 (fun h_ => absurd h_ (by decide)) (fun _ => ?_)
        have z0 : ln = 0 := (nI_eq (b := 0) (by omega) (by omega)).mp (Classical.not_not.mp g0)
        have z1 : ¬ c < 8 := fun z => g1 ((nI_ltI (b := 8) (by omega) (by omega)).mpr z)
        have hTm : tmB (P, y, (c, cf), (m, mf), ln) 3 = true := decide_eq_true (show 40 ≤ ln ∨ (3 = 1 ∧ 0 < P) ∨ (3 ≠ 1 ∧ P = 0) ∨ (3 = 2 ∧ 0 < y) ∨ (3 = 3 ∧ 8 ≤ c) ∨ (3 = 4 ∧ 24 ≤ m) by omega)
        refine k_aload f58_131 rfl ?_
        refine k_getr (q := 9) f58_132 hS.o11 rfl hR.r11_0 ?_
        refine k_iconst (v := 4) f58_135 rfl ?_
        refine k_callv (as := [.int (4)]) (rest := []) f58_136 hS.o9 rfl rfl rfl rfl (q_fail (b := b) (n := n) (w := 4) hS hT.1 (by omega) ht) ?_
        rintro _ _ ⟨rfl, I1, rfl, ht1, hf1⟩
        exact k_vret f58_139 ⟨rfl, I1, rfl, hf1.fp, by rw [show clT b n (P, y, (c, cf), (m, mf), ln) q = .inl (1 + 8 * q + 4) from by unfold clT; rw [hk, if_neg (by decide), if_pos hTm]]; exact ht1⟩
  · refine k_aload f58_0 rfl ?_
    refine k_getr (q := 9) f58_1 hS.o11 rfl hR.r11_0 ?_
    refine k_ldc f58_4 ?_
    refine e_v (as := [.retAddr 5]) (rest := []) f58_6 hS.o9 rfl rfl rfl ((show zRn x (d + 5) 54 [.ref 9, .retAddr 5] (I, J, R, G) (some (.int 4)) (I, J, R, G) from by have h := s_which (x := x) (d := d + 1) (J := J) (k := 5) hR hS hT (by omega) ht; rw [hk] at h; exact h)) ?_
    refine k_istore (L' := [.ref 11, .ref pl, .int (4), zU]) f58_9 rfl rfl ?_
    refine k_iload f58_10 rfl ?_
    refine k_if_ne f58_11 (fun _ => ?_) (fun h_ => absurd (by decide) h_)
    refine k_iload f58_23 rfl ?_
    refine k_iconst (v := 1) f58_24 rfl ?_
    refine k_ic_ne f58_25 (fun _ => ?_) (fun h_ => absurd (by decide) h_)
    refine k_iconst (v := 0) f58_32 rfl ?_
    refine k_aload f58_33 rfl ?_
    refine k_gI (w := nI ln) f58_34 hS.o11 rfl l1 ?_
    refine k_if_ne f58_37 (fun g0 => ?_) (fun g0 => ?_)
    · refine k_iconst (v := 0) f58_44 rfl ?_
      refine k_ic_ne f58_45 (fun h_ => absurd (by decide) h_) (fun _ => ?_)
      refine k_aload f58_48 rfl ?_
      refine k_gI (w := nI ln) f58_49 hS.o11 rfl l1 ?_
      refine k_iconst (v := 40) f58_52 rfl ?_
      refine k_ic_lt f58_54 (fun g1 => ?_) (fun g1 => ?_)
      · refine k_iconst (v := 0) f58_61 rfl ?_
        refine k_istore (L' := [.ref 11, .ref pl, .int (4), .int (0)]) f58_62 rfl rfl ?_
        refine k_iload f58_63 rfl ?_
        refine k_iload f58_64 rfl ?_
        refine k_iconst (v := 2) f58_65 rfl ?_
        refine k_ic_ne f58_66 (fun _ => ?_) (fun h_ => absurd (by decide) h_)
        refine k_iconst (v := 0) f58_80 rfl ?_
        refine k_ior f58_81 ?_
        rw [show (0 : Int32) ||| 0 = 0 from by decide]
        refine k_istore (L' := [.ref 11, .ref pl, .int (4), .int (0)]) f58_82 rfl rfl ?_
        refine k_iload f58_83 rfl ?_
        refine k_iload f58_84 rfl ?_
        refine k_iconst (v := 3) f58_85 rfl ?_
        refine k_ic_ne f58_86 (fun _ => ?_) (fun h_ => absurd (by decide) h_)
        refine k_iconst (v := 0) f58_102 rfl ?_
        refine k_ior f58_103 ?_
        rw [show (0 : Int32) ||| 0 = 0 from by decide]
        refine k_istore (L' := [.ref 11, .ref pl, .int (4), .int (0)]) f58_104 rfl rfl ?_
        refine k_iload f58_105 rfl ?_
        refine k_iload f58_106 rfl ?_
        refine k_iconst (v := 4) f58_107 rfl ?_
        refine k_ic_ne f58_108 (fun h_ => absurd (by decide) h_) (fun _ => ?_)
        refine k_aload f58_111 rfl ?_
        refine k_gI (w := nI m) f58_112 hP.1 rfl e3 ?_
        refine k_iconst (v := 24) f58_115 rfl ?_
        refine k_ic_lt f58_117 (fun g2 => ?_) (fun g2 => ?_)
        · refine k_iconst (v := 0) f58_124 rfl ?_
          refine k_ior f58_125 ?_
          rw [show (0 : Int32) ||| 0 = 0 from by decide]
          refine k_istore (L' := [.ref 11, .ref pl, .int (4), .int (0)]) f58_126 rfl rfl ?_
          refine k_iload f58_127 rfl ?_
          refine k_if_eq f58_128 (fun _ => ?_) (fun h_ => absurd (by decide) h_)
          have z0 : ¬ ln = 0 := fun z => g0 (congrArg nI z)
          have z1 : ln < 40 := (nI_ltI (b := 40) (by omega) (by omega)).mp g1
          have z2 : m < 24 := (nI_ltI (b := 24) (by omega) (by omega)).mp g2
          have hTm : ¬ tmB (P, y, (c, cf), (m, mf), ln) 4 = true := fun z => absurd (of_decide_eq_true z) (show ¬ (40 ≤ ln ∨ (4 = 1 ∧ 0 < P) ∨ (4 ≠ 1 ∧ P = 0) ∨ (4 = 2 ∧ 0 < y) ∨ (4 = 3 ∧ 8 ≤ c) ∨ (4 = 4 ∧ 24 ≤ m)) by omega)
          have hC : clT b n (P, y, (c, cf), (m, mf), ln) q = bdT b n 4 (P, y, (c, cf), (m, mf), ln) (wl b n q) := by unfold clT; rw [hk, if_neg (by decide), if_neg hTm]
          refine k_aload f58_140 rfl ?_
          refine k_dup f58_141 ?_
          refine k_gI (w := nI ln) f58_142 hS.o11 rfl l1 ?_
          refine k_iconst (v := 1) f58_145 rfl ?_
          refine k_iadd f58_146 ?_
          rw [nI_1 ln]
          refine k_putI f58_147 hS.o11 rfl ?_
          refine k_aload f58_150 rfl ?_
          refine k_getr (q := 9) f58_151 hS.o11 rfl hR.r11_0 ?_
          refine k_callv (as := []) (rest := []) f58_154 hS.o9 rfl rfl rfl rfl (q_next hR hS (hT.keep (fun k => z_u_p _ _ _ _ (by decide)) (fun k => z_u_p _ _ _ _ (by decide))) (ht.put (q := 11) (j := 1) (v := nI (ln + 1)) (by decide))) ?_
          rintro _ _ ⟨rfl, I2, rfl, ht2, hf2⟩
          have eL : ed b n q = wl b n q := if_pos (wh_isL (by rw [hk]; decide))
          obtain ⟨q1, eq1⟩ : ∃ q1, q1 = bk b n (wl b n q) := ⟨_, rfl⟩
          have ht2 : CX I2 b n (.inr q1) := by rw [eq1, ← eL]; exact ht2
          have hq1 : q1 ≤ n := ht2.2.2.2.2.2.2.2
          have i2 : ∀ p k, p ≠ 9 → ¬ (p = 11 ∧ k = 1) → I2 p k = I p k := fun p k h1 h2 => (hf2 p k h1).trans (z_u_no _ _ h2)
          have fp2 : FP pl I I2 := fun p k h1 h2 _ => i2 p k h1 (by omega)
          have hT2 : TP I2 b n := fp2.tp hpl hT
          have hw2 : TwC I2 R G pl (P, y, (c, cf), (m, mf), ln + 1) := by
            refine ⟨hP, hpl, (i2 _ _ (by omega) (by omega)).trans w0, (i2 _ _ (by omega) (by omega)).trans w1, (i2 _ _ (by omega) (by omega)).trans w2, (i2 _ _ (by omega) (by omega)).trans w3, fun i hi => ?_, fun i hi => ?_, (hf2 _ _ (by omega)).trans (z_u_same _ _ _ _), (i2 _ _ (by omega) (by omega)).trans wl2⟩
            · obtain ⟨x1, x2, x3⟩ := wc i hi
              exact ⟨(i2 _ _ (by omega) (by omega)).trans x1, (i2 _ _ (by omega) (by omega)).trans x2, (i2 _ _ (by omega) (by omega)).trans x3⟩
            · obtain ⟨x1, x2, x3, x4⟩ := wm i hi
              exact ⟨(i2 _ _ (by omega) (by omega)).trans x1, (i2 _ _ (by omega) (by omega)).trans x2, (i2 _ _ (by omega) (by omega)).trans x3, (i2 _ _ (by omega) (by omega)).trans x4⟩
          refine k_iload f58_157 rfl ?_
          refine k_tsout f58_158 (by decide) ?_
          refine k_aload f58_228 rfl ?_
          refine k_aload f58_229 rfl ?_
          refine k_callv (as := [.ref pl]) (rest := []) f58_230 hS.o11 rfl rfl rfl rfl (q_rdMeet (P := P) (m := m) (q := q1) (dy := fun j => nI (mf j).1) hR hS hT2 ht2 hP hpl ((i2 _ _ (by omega) (by omega)).trans e0) (by omega) o2 ((i2 _ _ (by omega) (by omega)).trans e3) (by omega) (fun i hi => (hw2.2.2.2.2.2.2.2.1 i hi).1) (fun i hi => (hw2.2.2.2.2.2.2.2.1 i hi).2.2.2)) ?_
          rintro _ _ ⟨rfl, I3, I4, rfl, hf3, ht3, k1, k2, k3, k4, k5, k6⟩
          exact k_vret f58_233 ⟨rfl, I4, rfl, (fp2.trans hf3.fp).trans (fun p k h1 h2 h3 => k6 p k (by omega) (by omega) (by omega) (by omega)), by rw [hC]; exact fin_4 hq1 eq1 hw2 hf3 o2 ht3 k1 k2 k3 k4 k5 k6⟩
        · refine k_iconst (v := 1) f58_120 rfl ?_
          refine k_goto f58_121 ?_
          refine k_ior f58_125 ?_
          rw [show (0 : Int32) ||| 1 = 1 from by decide]
          refine k_istore (L' := [.ref 11, .ref pl, .int (4), .int (1)]) f58_126 rfl rfl ?_
          refine k_iload f58_127 rfl ?_
          refine k_if_eq f58_128 (fun h_ => absurd h_ (by decide)) (fun _ => ?_)
          have z0 : ¬ ln = 0 := fun z => g0 (congrArg nI z)
          have z1 : ln < 40 := (nI_ltI (b := 40) (by omega) (by omega)).mp g1
          have z2 : ¬ m < 24 := fun z => g2 ((nI_ltI (b := 24) (by omega) (by omega)).mpr z)
          have hTm : tmB (P, y, (c, cf), (m, mf), ln) 4 = true := decide_eq_true (show 40 ≤ ln ∨ (4 = 1 ∧ 0 < P) ∨ (4 ≠ 1 ∧ P = 0) ∨ (4 = 2 ∧ 0 < y) ∨ (4 = 3 ∧ 8 ≤ c) ∨ (4 = 4 ∧ 24 ≤ m) by omega)
          refine k_aload f58_131 rfl ?_
          refine k_getr (q := 9) f58_132 hS.o11 rfl hR.r11_0 ?_
          refine k_iconst (v := 4) f58_135 rfl ?_
          refine k_callv (as := [.int (4)]) (rest := []) f58_136 hS.o9 rfl rfl rfl rfl (q_fail (b := b) (n := n) (w := 4) hS hT.1 (by omega) ht) ?_
          rintro _ _ ⟨rfl, I1, rfl, ht1, hf1⟩
          exact k_vret f58_139 ⟨rfl, I1, rfl, hf1.fp, by rw [show clT b n (P, y, (c, cf), (m, mf), ln) q = .inl (1 + 8 * q + 4) from by unfold clT; rw [hk, if_neg (by decide), if_pos hTm]]; exact ht1⟩
      · refine k_iconst (v := 1) f58_57 rfl ?_
        refine k_goto f58_58 ?_
        refine k_istore (L' := [.ref 11, .ref pl, .int (4), .int (1)]) f58_62 rfl rfl ?_
        refine k_iload f58_63 rfl ?_
        refine k_iload f58_64 rfl ?_
        refine k_iconst (v := 2) f58_65 rfl ?_
        refine k_ic_ne f58_66 (fun _ => ?_) (fun h_ => absurd (by decide) h_)
        refine k_iconst (v := 0) f58_80 rfl ?_
        refine k_ior f58_81 ?_
        rw [show (1 : Int32) ||| 0 = 1 from by decide]
        refine k_istore (L' := [.ref 11, .ref pl, .int (4), .int (1)]) f58_82 rfl rfl ?_
        refine k_iload f58_83 rfl ?_
        refine k_iload f58_84 rfl ?_
        refine k_iconst (v := 3) f58_85 rfl ?_
        refine k_ic_ne f58_86 (fun _ => ?_) (fun h_ => absurd (by decide) h_)
        refine k_iconst (v := 0) f58_102 rfl ?_
        refine k_ior f58_103 ?_
        rw [show (1 : Int32) ||| 0 = 1 from by decide]
        refine k_istore (L' := [.ref 11, .ref pl, .int (4), .int (1)]) f58_104 rfl rfl ?_
        refine k_iload f58_105 rfl ?_
        refine k_iload f58_106 rfl ?_
        refine k_iconst (v := 4) f58_107 rfl ?_
        refine k_ic_ne f58_108 (fun h_ => absurd (by decide) h_) (fun _ => ?_)
        refine k_aload f58_111 rfl ?_
        refine k_gI (w := nI m) f58_112 hP.1 rfl e3 ?_
        refine k_iconst (v := 24) f58_115 rfl ?_
        refine k_ic_lt f58_117 (fun g2 => ?_) (fun g2 => ?_)
        · refine k_iconst (v := 0) f58_124 rfl ?_
          refine k_ior f58_125 ?_
          rw [show (1 : Int32) ||| 0 = 1 from by decide]
          refine k_istore (L' := [.ref 11, .ref pl, .int (4), .int (1)]) f58_126 rfl rfl ?_
          refine k_iload f58_127 rfl ?_
          refine k_if_eq f58_128 (fun h_ => absurd h_ (by decide)) (fun _ => ?_)
          have z0 : ¬ ln = 0 := fun z => g0 (congrArg nI z)
          have z1 : ¬ ln < 40 := fun z => g1 ((nI_ltI (b := 40) (by omega) (by omega)).mpr z)
          have z2 : m < 24 := (nI_ltI (b := 24) (by omega) (by omega)).mp g2
          have hTm : tmB (P, y, (c, cf), (m, mf), ln) 4 = true := decide_eq_true (show 40 ≤ ln ∨ (4 = 1 ∧ 0 < P) ∨ (4 ≠ 1 ∧ P = 0) ∨ (4 = 2 ∧ 0 < y) ∨ (4 = 3 ∧ 8 ≤ c) ∨ (4 = 4 ∧ 24 ≤ m) by omega)
          refine k_aload f58_131 rfl ?_
          refine k_getr (q := 9) f58_132 hS.o11 rfl hR.r11_0 ?_
          refine k_iconst (v := 4) f58_135 rfl ?_
          refine k_callv (as := [.int (4)]) (rest := []) f58_136 hS.o9 rfl rfl rfl rfl (q_fail (b := b) (n := n) (w := 4) hS hT.1 (by omega) ht) ?_
          rintro _ _ ⟨rfl, I1, rfl, ht1, hf1⟩
          exact k_vret f58_139 ⟨rfl, I1, rfl, hf1.fp, by rw [show clT b n (P, y, (c, cf), (m, mf), ln) q = .inl (1 + 8 * q + 4) from by unfold clT; rw [hk, if_neg (by decide), if_pos hTm]]; exact ht1⟩
        · refine k_iconst (v := 1) f58_120 rfl ?_
          refine k_goto f58_121 ?_
          refine k_ior f58_125 ?_
          rw [show (1 : Int32) ||| 1 = 1 from by decide]
          refine k_istore (L' := [.ref 11, .ref pl, .int (4), .int (1)]) f58_126 rfl rfl ?_
          refine k_iload f58_127 rfl ?_
          refine k_if_eq f58_128 (fun h_ => absurd h_ (by decide)) (fun _ => ?_)
          have z0 : ¬ ln = 0 := fun z => g0 (congrArg nI z)
          have z1 : ¬ ln < 40 := fun z => g1 ((nI_ltI (b := 40) (by omega) (by omega)).mpr z)
          have z2 : ¬ m < 24 := fun z => g2 ((nI_ltI (b := 24) (by omega) (by omega)).mpr z)
          have hTm : tmB (P, y, (c, cf), (m, mf), ln) 4 = true := decide_eq_true (show 40 ≤ ln ∨ (4 = 1 ∧ 0 < P) ∨ (4 ≠ 1 ∧ P = 0) ∨ (4 = 2 ∧ 0 < y) ∨ (4 = 3 ∧ 8 ≤ c) ∨ (4 = 4 ∧ 24 ≤ m) by omega)
          refine k_aload f58_131 rfl ?_
          refine k_getr (q := 9) f58_132 hS.o11 rfl hR.r11_0 ?_
          refine k_iconst (v := 4) f58_135 rfl ?_
          refine k_callv (as := [.int (4)]) (rest := []) f58_136 hS.o9 rfl rfl rfl rfl (q_fail (b := b) (n := n) (w := 4) hS hT.1 (by omega) ht) ?_
          rintro _ _ ⟨rfl, I1, rfl, ht1, hf1⟩
          exact k_vret f58_139 ⟨rfl, I1, rfl, hf1.fp, by rw [show clT b n (P, y, (c, cf), (m, mf), ln) q = .inl (1 + 8 * q + 4) from by unfold clT; rw [hk, if_neg (by decide), if_pos hTm]]; exact ht1⟩
    · refine k_iconst (v := 1) f58_40 rfl ?_
      refine k_goto f58_41 ?_
      refine k_ic_ne f58_45 (fun _ => ?_) (fun h_ => absurd (by decide) h_)
      refine k_iconst (v := 1) f58_57 rfl ?_
      refine k_goto f58_58 ?_
      refine k_istore (L' := [.ref 11, .ref pl, .int (4), .int (1)]) f58_62 rfl rfl ?_
      refine k_iload f58_63 rfl ?_
      refine k_iload f58_64 rfl ?_
      refine k_iconst (v := 2) f58_65 rfl ?_
      refine k_ic_ne f58_66 (fun _ => ?_) (fun h_ => absurd (by decide) h_)
      refine k_iconst (v := 0) f58_80 rfl ?_
      refine k_ior f58_81 ?_
      rw [show (1 : Int32) ||| 0 = 1 from by decide]
      refine k_istore (L' := [.ref 11, .ref pl, .int (4), .int (1)]) f58_82 rfl rfl ?_
      refine k_iload f58_83 rfl ?_
      refine k_iload f58_84 rfl ?_
      refine k_iconst (v := 3) f58_85 rfl ?_
      refine k_ic_ne f58_86 (fun _ => ?_) (fun h_ => absurd (by decide) h_)
      refine k_iconst (v := 0) f58_102 rfl ?_
      refine k_ior f58_103 ?_
      rw [show (1 : Int32) ||| 0 = 1 from by decide]
      refine k_istore (L' := [.ref 11, .ref pl, .int (4), .int (1)]) f58_104 rfl rfl ?_
      refine k_iload f58_105 rfl ?_
      refine k_iload f58_106 rfl ?_
      refine k_iconst (v := 4) f58_107 rfl ?_
      refine k_ic_ne f58_108 (fun h_ => absurd (by decide) h_) (fun _ => ?_)
      refine k_aload f58_111 rfl ?_
      refine k_gI (w := nI m) f58_112 hP.1 rfl e3 ?_
      refine k_iconst (v := 24) f58_115 rfl ?_
      refine k_ic_lt f58_117 (fun g1 => ?_) (fun g1 => ?_)
      · refine k_iconst (v := 0) f58_124 rfl ?_
        refine k_ior f58_125 ?_
        rw [show (1 : Int32) ||| 0 = 1 from by decide]
        refine k_istore (L' := [.ref 11, .ref pl, .int (4), .int (1)]) f58_126 rfl rfl ?_
        refine k_iload f58_127 rfl ?_
        refine k_if_eq f58_128 (fun h_ => absurd h_ (by decide)) (fun _ => ?_)
        have z0 : ln = 0 := (nI_eq (b := 0) (by omega) (by omega)).mp (Classical.not_not.mp g0)
        have z1 : m < 24 := (nI_ltI (b := 24) (by omega) (by omega)).mp g1
        have hTm : tmB (P, y, (c, cf), (m, mf), ln) 4 = true := decide_eq_true (show 40 ≤ ln ∨ (4 = 1 ∧ 0 < P) ∨ (4 ≠ 1 ∧ P = 0) ∨ (4 = 2 ∧ 0 < y) ∨ (4 = 3 ∧ 8 ≤ c) ∨ (4 = 4 ∧ 24 ≤ m) by omega)
        refine k_aload f58_131 rfl ?_
        refine k_getr (q := 9) f58_132 hS.o11 rfl hR.r11_0 ?_
        refine k_iconst (v := 4) f58_135 rfl ?_
        refine k_callv (as := [.int (4)]) (rest := []) f58_136 hS.o9 rfl rfl rfl rfl (q_fail (b := b) (n := n) (w := 4) hS hT.1 (by omega) ht) ?_
        rintro _ _ ⟨rfl, I1, rfl, ht1, hf1⟩
        exact k_vret f58_139 ⟨rfl, I1, rfl, hf1.fp, by rw [show clT b n (P, y, (c, cf), (m, mf), ln) q = .inl (1 + 8 * q + 4) from by unfold clT; rw [hk, if_neg (by decide), if_pos hTm]]; exact ht1⟩
      · refine k_iconst (v := 1) f58_120 rfl ?_
        refine k_goto f58_121 ?_
        refine k_ior f58_125 ?_
        rw [show (1 : Int32) ||| 1 = 1 from by decide]
        refine k_istore (L' := [.ref 11, .ref pl, .int (4), .int (1)]) f58_126 rfl rfl ?_
        refine k_iload f58_127 rfl ?_
        refine k_if_eq f58_128 (fun h_ => absurd h_ (by decide)) (fun _ => ?_)
        have z0 : ln = 0 := (nI_eq (b := 0) (by omega) (by omega)).mp (Classical.not_not.mp g0)
        have z1 : ¬ m < 24 := fun z => g1 ((nI_ltI (b := 24) (by omega) (by omega)).mpr z)
        have hTm : tmB (P, y, (c, cf), (m, mf), ln) 4 = true := decide_eq_true (show 40 ≤ ln ∨ (4 = 1 ∧ 0 < P) ∨ (4 ≠ 1 ∧ P = 0) ∨ (4 = 2 ∧ 0 < y) ∨ (4 = 3 ∧ 8 ≤ c) ∨ (4 = 4 ∧ 24 ≤ m) by omega)
        refine k_aload f58_131 rfl ?_
        refine k_getr (q := 9) f58_132 hS.o11 rfl hR.r11_0 ?_
        refine k_iconst (v := 4) f58_135 rfl ?_
        refine k_callv (as := [.int (4)]) (rest := []) f58_136 hS.o9 rfl rfl rfl rfl (q_fail (b := b) (n := n) (w := 4) hS hT.1 (by omega) ht) ?_
        rintro _ _ ⟨rfl, I1, rfl, ht1, hf1⟩
        exact k_vret f58_139 ⟨rfl, I1, rfl, hf1.fp, by rw [show clT b n (P, y, (c, cf), (m, mf), ln) q = .inl (1 + 8 * q + 4) from by unfold clT; rw [hk, if_neg (by decide), if_pos hTm]]; exact ht1⟩
