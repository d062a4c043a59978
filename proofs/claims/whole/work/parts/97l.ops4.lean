/-! PAIRS: person, count. -/
theorem lp_personW {x : Nat × (Nat → Int32)} {d : Nat} {I : Nat → Nat → Int32} {J : Nat → Nat → Int64} {R : Nat → Nat → Option Nat} {G : zG} {p w : Int32} {n : Nat} {s : Nat → Int32} (hR : Rs R) (hS : Sh G) (hs : I 62 = s) (hn : s 1 = nI n) (hn8 : n ≤ 8) : ∀ (f i : Nat), i + f = n → zOk x (d + 2) 164 48 [.ref 51, .int (p), .int (w), .int (acc (fG s p) i), .int (nI i)] [] (I, J, R, G) (fun w m => w = some (.int (acc (fG s p) n)) ∧ m = (I, J, R, G)) := by
  intro f
  induction f with
  | zero =>
    intro i hi
    refine k_iload f164_48 rfl ?_
    refine k_aload f164_50 rfl ?_
    refine k_getr (q := 62) f164_51 hS.o51 rfl hR.r51_25 ?_
    refine k_iconst (v := 1) f164_54 rfl ?_
    refine k_ia (k := 1) (w := nI n) f164_55 hS.a62 rfl (by decide) (by decide) ((congrFun hs _).trans hn) ?_
    refine k_ic_ge f164_56 (fun _ => ?_) (fun h_ => absurd (nI_le (by omega) (by omega)) h_)
    refine k_iload f164_99 rfl ?_
    exact k_iret f164_100 rfl ⟨by rw [show n = i by omega], rfl⟩
  | succ f ih =>
    intro i hi
    have hin : i < n := by omega
    refine k_iload f164_48 rfl ?_
    refine k_aload f164_50 rfl ?_
    refine k_getr (q := 62) f164_51 hS.o51 rfl hR.r51_25 ?_
    refine k_iconst (v := 1) f164_54 rfl ?_
    refine k_ia (k := 1) (w := nI n) f164_55 hS.a62 rfl (by decide) (by decide) ((congrFun hs _).trans hn) ?_
    refine k_ic_ge f164_56 (fun h_ => absurd h_ (nI_ge hin (by omega))) (fun _ => ?_)
    refine k_iload f164_59 rfl ?_
    refine k_aload f164_60 rfl ?_
    refine k_iload f164_61 rfl ?_
    refine k_iconst (v := 1) f164_63 rfl ?_
    refine e_v (as := [.int (1), .int (nI i)]) (rest := [.int (acc (fG s p) i)]) f164_64 hS.o51 rfl rfl rfl (s_coinOf (c := i) (k := 1) (v := s (8 + 6 * i + 1)) hR hS (by omega) (congrFun hs _)) ?_
    refine k_iload f164_67 rfl ?_
    refine k_ic_ne f164_68 (fun g0 => ?_) (fun g0 => ?_)
    · refine k_iconst (v := 0) f164_90 rfl ?_
      refine k_iadd f164_91 ?_
      refine k_istore (L' := [.ref 51, .int (p), .int (w), .int ((acc (fG s p) i) + (0)), .int (nI i)]) f164_92 rfl rfl ?_
      refine k_iinc (w := nI (i + 1)) (L' := [.ref 51, .int (p), .int (w), .int ((acc (fG s p) i) + (0)), .int (nI (i + 1))]) f164_93 rfl (nI_1 i) rfl rfl ?_
      refine k_goto f164_96 ?_
      have e : (acc (fG s p) i) + (0) = acc (fG s p) (i + 1) := by
        rw [ad_0, acc_s, fG, if_neg g0]
      rw [e]
      exact ih (i + 1) (by omega)
    · refine k_aload f164_71 rfl ?_
      refine k_iload f164_72 rfl ?_
      refine e_v (as := [.int (nI i)]) (rest := [.int (acc (fG s p) i)]) f164_74 hS.o51 rfl rfl rfl (s_isVoidM hR hS hs (by omega)) ?_
      refine k_bne f164_77 (fun g1 => ?_) (fun g1 => ?_)
      · refine k_iconst (v := 0) f164_90 rfl ?_
        refine k_iadd f164_91 ?_
        refine k_istore (L' := [.ref 51, .int (p), .int (w), .int ((acc (fG s p) i) + (0)), .int (nI i)]) f164_92 rfl rfl ?_
        refine k_iinc (w := nI (i + 1)) (L' := [.ref 51, .int (p), .int (w), .int ((acc (fG s p) i) + (0)), .int (nI (i + 1))]) f164_93 rfl (nI_1 i) rfl rfl ?_
        refine k_goto f164_96 ?_
        have e : (acc (fG s p) i) + (0) = acc (fG s p) (i + 1) := by
          rw [ad_0, acc_s, fG, if_pos (Classical.not_not.mp g0), if_neg g1]
        rw [e]
        exact ih (i + 1) (by omega)
      · refine k_aload f164_80 rfl ?_
        refine k_iload f164_81 rfl ?_
        refine k_iconst (v := 0) f164_83 rfl ?_
        refine e_v (as := [.int (0), .int (nI i)]) (rest := [.int (acc (fG s p) i)]) f164_84 hS.o51 rfl rfl rfl (s_coinOf (c := i) (k := 0) (v := s (8 + 6 * i)) hR hS (by omega) (congrFun hs _)) ?_
        refine k_goto f164_87 ?_
        refine k_iadd f164_91 ?_
        refine k_istore (L' := [.ref 51, .int (p), .int (w), .int ((acc (fG s p) i) + (s (8 + 6 * i))), .int (nI i)]) f164_92 rfl rfl ?_
        refine k_iinc (w := nI (i + 1)) (L' := [.ref 51, .int (p), .int (w), .int ((acc (fG s p) i) + (s (8 + 6 * i))), .int (nI (i + 1))]) f164_93 rfl (nI_1 i) rfl rfl ?_
        refine k_goto f164_96 ?_
        have e : (acc (fG s p) i) + (s (8 + 6 * i)) = acc (fG s p) (i + 1) := by
          rw [acc_s, fG, if_pos (Classical.not_not.mp g0), if_pos (Classical.not_not.mp g1)]
        rw [e]
        exact ih (i + 1) (by omega)
theorem lp_countT {x : Nat × (Nat → Int32)} {d : Nat} {I : Nat → Nat → Int32} {J : Nat → Nat → Int64} {R : Nat → Nat → Option Nat} {G : zG} {w : Int32} {n : Nat} {s : Nat → Int32} (hR : Rs R) (hS : Sh G) (hs : I 62 = s) (hn : s 1 = nI n) (hn8 : n ≤ 8) (ht : ∀ c, c < n → s (131 + c) = -1 ∨ Rg (s (131 + c)) 2) : ∀ (f i : Nat), i + f = n → zOk x d 202 94 [.ref 51, .int (w), .int (acc (fT s) i), .int (nI i)] [] (I, J, R, G) (fun w m => w = some (.int (acc (fT s) n)) ∧ m = (I, J, R, G)) := by
  intro f
  induction f with
  | zero =>
    intro i hi
    refine k_iload f202_94 rfl ?_
    refine k_aload f202_95 rfl ?_
    refine k_getr (q := 62) f202_96 hS.o51 rfl hR.r51_25 ?_
    refine k_iconst (v := 1) f202_99 rfl ?_
    refine k_ia (k := 1) (w := nI n) f202_100 hS.a62 rfl (by decide) (by decide) ((congrFun hs _).trans hn) ?_
    refine k_ic_ge f202_101 (fun _ => ?_) (fun h_ => absurd (nI_le (by omega) (by omega)) h_)
    refine k_iload f202_131 rfl ?_
    exact k_iret f202_132 rfl ⟨by rw [show n = i by omega], rfl⟩
  | succ f ih =>
    intro i hi
    have hin : i < n := by omega
    refine k_iload f202_94 rfl ?_
    refine k_aload f202_95 rfl ?_
    refine k_getr (q := 62) f202_96 hS.o51 rfl hR.r51_25 ?_
    refine k_iconst (v := 1) f202_99 rfl ?_
    refine k_ia (k := 1) (w := nI n) f202_100 hS.a62 rfl (by decide) (by decide) ((congrFun hs _).trans hn) ?_
    refine k_ic_ge f202_101 (fun h_ => absurd h_ (nI_ge hin (by omega))) (fun _ => ?_)
    refine k_iload f202_104 rfl ?_
    refine k_aload f202_105 rfl ?_
    refine k_getr (q := 62) f202_106 hS.o51 rfl hR.r51_25 ?_
    refine k_iconst (v := 131) f202_109 rfl ?_
    refine k_iload f202_112 rfl ?_
    refine k_iadd f202_113 ?_
    refine k_ia (k := 131 + i) (w := s (131 + i)) f202_114 hS.a62 (ix_t i) (by omega) (by decide) (congrFun hs _) ?_
    refine k_if_ge f202_115 (fun g0 => ?_) (fun g0 => ?_)
    · refine k_iconst (v := 1) f202_122 rfl ?_
      refine k_iadd f202_123 ?_
      refine k_istore (L' := [.ref 51, .int (w), .int ((acc (fT s) i) + (1)), .int (nI i)]) f202_124 rfl rfl ?_
      refine k_iinc (w := nI (i + 1)) (L' := [.ref 51, .int (w), .int ((acc (fT s) i) + (1)), .int (nI (i + 1))]) f202_125 rfl (nI_1 i) rfl rfl ?_
      refine k_goto f202_128 ?_
      have e : (acc (fT s) i) + (1) = acc (fT s) (i + 1) := by
        rw [acc_s, fT, if_neg (told_ne g0)]
      rw [e]
      exact ih (i + 1) (by omega)
    · refine k_iconst (v := 0) f202_118 rfl ?_
      refine k_goto f202_119 ?_
      refine k_iadd f202_123 ?_
      refine k_istore (L' := [.ref 51, .int (w), .int ((acc (fT s) i) + (0)), .int (nI i)]) f202_124 rfl rfl ?_
      refine k_iinc (w := nI (i + 1)) (L' := [.ref 51, .int (w), .int ((acc (fT s) i) + (0)), .int (nI (i + 1))]) f202_125 rfl (nI_1 i) rfl rfl ?_
      refine k_goto f202_128 ?_
      have e : (acc (fT s) i) + (0) = acc (fT s) (i + 1) := by
        rw [ad_0, acc_s, fT, if_pos (told_eq (ht i hin) g0)]
      rw [e]
      exact ih (i + 1) (by omega)
theorem op_person {x : Nat × (Nat → Int32)} (person what : Int32) : Op Inv x 78 164 [.int person, .int what] := by
  refine Op.of2 fun j I J R G hj hI => ?_
  have hS : Sh G := hI.1
  have hR : Rs R := hI.2.1
  have hT1 : Rg (I 9 1) 401 := hI.2.2.2.2.1.1
  have hT2 : I 51 1 = I 9 1 := hI.2.2.2.2.1.2.1
  have hN1 : Rg (I 0 4) 7 := hI.2.2.2.2.2.1.1
  have hN2 : I 51 2 = I 0 4 := hI.2.2.2.2.2.1.2.1
  have hN3 : ∀ t, t < cl (I 0 4) → ∃ r, R 16 t = some r ∧ RuR I R G t r := hI.2.2.2.2.2.1.2.2
  obtain ⟨pl, hst⟩ : ∃ pl, StR I R G 17 pl (I 62) := hI.2.2.2.2.2.2.1
  have hO : SOk (I 62) (cl (I 0 4)) := hI.2.2.2.2.2.2.2.1
  have hn1 : I 62 1 = nI (cl (I 62 1)) := hO.2.1.1
  have hn8 : cl (I 62 1) ≤ 8 := Nat.le_of_lt_succ hO.2.1.2
  have hm1 : I 62 2 = nI (cl (I 62 2)) := hO.2.2.1.1
  have hm8 : cl (I 62 2) ≤ 24 := Nat.le_of_lt_succ hO.2.2.1.2
  have hne : ∀ m, m < cl (I 62 2) → I 62 (56 + 3 * m + 1) ≠ I 62 (56 + 3 * m + 2) := fun m hm => (hO.2.2.2.2.2.2.2.2 m hm).2.2.2
  have htl : ∀ c, c < cl (I 62 1) → I 62 (131 + c) = -1 ∨ Rg (I 62 (131 + c)) 2 := fun c hc => (hO.2.2.2.2.2.2.2.1 c hc).2.2.2.2.2.1
  by_cases hP : ¬ person < 0 ∧ ¬ I 62 0 ≤ person
  · rcases sw3 what with ho | rfl | rfl | rfl
    · show zOk x 399 78 0 [.ref 0, .int (person), .int (what)] [] _ _
      refine k_aload f78_0 rfl ?_
      refine k_iload f78_1 rfl ?_
      refine e_v (as := [.int (person)]) (rest := []) f78_2 hS.o0 rfl rfl rfl (s_hasPerson hR hS hst) ?_
      refine k_bne f78_5 (fun _ => ?_) (fun h_ => absurd (hP) h_)
      refine k_iload f78_10 rfl ?_
      refine k_tsout f78_11 (sw_o (b := 2) (by decide) ho) ?_
      refine k_iconst (v := (-1)) f78_63 rfl ?_
      refine k_iret f78_64 rfl ⟨_, rfl, ?_⟩
      show zOk x 399 164 0 [.ref 51, .int (person), .int (what), zU, zU] [] _ _
      refine k_aload f164_0 rfl ?_
      refine k_iload f164_1 rfl ?_
      refine e_v (as := [.int (person)]) (rest := []) f164_2 hS.o51 rfl rfl rfl (s_isPerson (w := I 62 0) hR hS rfl) ?_
      refine k_beq f164_5 (fun h_ => absurd (hP) h_) (fun _ => ?_)
      refine k_iload f164_8 rfl ?_
      refine k_i2l f164_9 ?_
      refine k_lconst (v := 0) f164_10 rfl ?_
      refine k_lconst (v := 2) f164_11 rfl ?_
      refine e_s (as := [.long (2), .long (0), .long ((what).toInt64)]) (rest := []) f164_14 rfl rfl rfl (s_in (0) (2) rfl rfl) ?_
      refine k_bne f164_17 (fun h_ => absurd h_ (fun h => ho.elim h.1 h.2)) (fun _ => ?_)
      refine k_iconst (v := (-1)) f164_20 rfl ?_
      refine k_iret f164_21 rfl ⟨rfl, ?_⟩
      exact inv_q hI (by omega) Kq.rfl KS.rfl
    · show zOk x 399 78 0 [.ref 0, .int (person), .int (0)] [] _ _
      refine k_aload f78_0 rfl ?_
      refine k_iload f78_1 rfl ?_
      refine e_v (as := [.int (person)]) (rest := []) f78_2 hS.o0 rfl rfl rfl (s_hasPerson hR hS hst) ?_
      refine k_bne f78_5 (fun _ => ?_) (fun h_ => absurd (hP) h_)
      refine k_iload f78_10 rfl ?_
      refine k_tsin (t := 36) f78_11 (by decide) (by decide) rfl rfl ?_
      refine k_aload f78_36 rfl ?_
      refine k_getr (q := 17) f78_37 hS.o0 rfl hR.r0_5 ?_
      refine k_iload f78_40 rfl ?_
      refine e_v (as := [.int (person)]) (rest := []) f78_41 hS.o17 rfl rfl rfl (s_held (st := 17) hst hn1 hn8) ?_
      refine k_iret f78_44 rfl ⟨_, rfl, ?_⟩
      show zOk x 399 164 0 [.ref 51, .int (person), .int (0), zU, zU] [] _ _
      refine k_aload f164_0 rfl ?_
      refine k_iload f164_1 rfl ?_
      refine e_v (as := [.int (person)]) (rest := []) f164_2 hS.o51 rfl rfl rfl (s_isPerson (w := I 62 0) hR hS rfl) ?_
      refine k_beq f164_5 (fun h_ => absurd (hP) h_) (fun _ => ?_)
      refine k_iload f164_8 rfl ?_
      refine k_i2l f164_9 ?_
      refine k_lconst (v := 0) f164_10 rfl ?_
      refine k_lconst (v := 2) f164_11 rfl ?_
      refine e_s (as := [.long (2), .long (0), .long ((0 : Int32).toInt64)]) (rest := []) f164_14 rfl rfl rfl (s_in (0) (2) rfl rfl) ?_
      refine k_bne f164_17 (fun _ => ?_) (fun h_ => absurd (by decide) h_)
      refine k_iload f164_22 rfl ?_
      refine k_if_ne f164_23 (fun h_ => absurd (by decide) h_) (fun _ => ?_)
      refine k_aload f164_26 rfl ?_
      refine k_iload f164_27 rfl ?_
      refine e_v (as := [.int (person)]) (rest := []) f164_28 hS.o51 rfl rfl rfl (s_purseOf hR hS rfl hn1 hn8) ?_
      refine k_iret f164_31 rfl ⟨rfl, ?_⟩
      exact inv_q hI (by omega) Kq.rfl KS.rfl
    · show zOk x 399 78 0 [.ref 0, .int (person), .int (1)] [] _ _
      refine k_aload f78_0 rfl ?_
      refine k_iload f78_1 rfl ?_
      refine e_v (as := [.int (person)]) (rest := []) f78_2 hS.o0 rfl rfl rfl (s_hasPerson hR hS hst) ?_
      refine k_bne f78_5 (fun _ => ?_) (fun h_ => absurd (hP) h_)
      refine k_iload f78_10 rfl ?_
      refine k_tsin (t := 45) f78_11 (by decide) (by decide) rfl rfl ?_
      refine k_aload f78_45 rfl ?_
      refine k_getr (q := 17) f78_46 hS.o0 rfl hR.r0_5 ?_
      refine k_iload f78_49 rfl ?_
      refine e_v (as := [.int (person)]) (rest := []) f78_50 hS.o17 rfl rfl rfl (s_goodWorth (st := 17) hst hn1 hn8) ?_
      refine k_iret f78_53 rfl ⟨_, rfl, ?_⟩
      show zOk x 399 164 0 [.ref 51, .int (person), .int (1), zU, zU] [] _ _
      refine k_aload f164_0 rfl ?_
      refine k_iload f164_1 rfl ?_
      refine e_v (as := [.int (person)]) (rest := []) f164_2 hS.o51 rfl rfl rfl (s_isPerson (w := I 62 0) hR hS rfl) ?_
      refine k_beq f164_5 (fun h_ => absurd (hP) h_) (fun _ => ?_)
      refine k_iload f164_8 rfl ?_
      refine k_i2l f164_9 ?_
      refine k_lconst (v := 0) f164_10 rfl ?_
      refine k_lconst (v := 2) f164_11 rfl ?_
      refine e_s (as := [.long (2), .long (0), .long ((1 : Int32).toInt64)]) (rest := []) f164_14 rfl rfl rfl (s_in (0) (2) rfl rfl) ?_
      refine k_bne f164_17 (fun _ => ?_) (fun h_ => absurd (by decide) h_)
      refine k_iload f164_22 rfl ?_
      refine k_if_ne f164_23 (fun _ => ?_) (fun h_ => absurd (by decide) h_)
      refine k_iload f164_32 rfl ?_
      refine k_iconst (v := 2) f164_33 rfl ?_
      refine k_ic_ne f164_34 (fun _ => ?_) (fun h_ => absurd (by decide) h_)
      refine k_iconst (v := 0) f164_43 rfl ?_
      refine k_istore (L' := [.ref 51, .int (person), .int (1), .int (0), zU]) f164_44 rfl rfl ?_
      refine k_iconst (v := 0) f164_45 rfl ?_
      refine k_istore (L' := [.ref 51, .int (person), .int (1), .int (0), .int (0)]) f164_46 rfl rfl ?_
      refine zOk.imp (lp_personW hR hS rfl hn1 hn8 (cl (I 62 1)) 0 (by omega)) ?_
      rintro _ _ ⟨rfl, rfl⟩
      exact ⟨rfl, inv_q hI (by omega) Kq.rfl KS.rfl⟩
    · show zOk x 399 78 0 [.ref 0, .int (person), .int (2)] [] _ _
      refine k_aload f78_0 rfl ?_
      refine k_iload f78_1 rfl ?_
      refine e_v (as := [.int (person)]) (rest := []) f78_2 hS.o0 rfl rfl rfl (s_hasPerson hR hS hst) ?_
      refine k_bne f78_5 (fun _ => ?_) (fun h_ => absurd (hP) h_)
      refine k_iload f78_10 rfl ?_
      refine k_tsin (t := 54) f78_11 (by decide) (by decide) rfl rfl ?_
      refine k_aload f78_54 rfl ?_
      refine k_getr (q := 17) f78_55 hS.o0 rfl hR.r0_5 ?_
      refine k_iload f78_58 rfl ?_
      refine e_v (as := [.int (person)]) (rest := []) f78_59 hS.o17 rfl rfl rfl (s_metToday (st := 17) hst hm1 hm8) ?_
      refine k_iret f78_62 rfl ⟨_, rfl, ?_⟩
      show zOk x 399 164 0 [.ref 51, .int (person), .int (2), zU, zU] [] _ _
      refine k_aload f164_0 rfl ?_
      refine k_iload f164_1 rfl ?_
      refine e_v (as := [.int (person)]) (rest := []) f164_2 hS.o51 rfl rfl rfl (s_isPerson (w := I 62 0) hR hS rfl) ?_
      refine k_beq f164_5 (fun h_ => absurd (hP) h_) (fun _ => ?_)
      refine k_iload f164_8 rfl ?_
      refine k_i2l f164_9 ?_
      refine k_lconst (v := 0) f164_10 rfl ?_
      refine k_lconst (v := 2) f164_11 rfl ?_
      refine e_s (as := [.long (2), .long (0), .long ((2 : Int32).toInt64)]) (rest := []) f164_14 rfl rfl rfl (s_in (0) (2) rfl rfl) ?_
      refine k_bne f164_17 (fun _ => ?_) (fun h_ => absurd (by decide) h_)
      refine k_iload f164_22 rfl ?_
      refine k_if_ne f164_23 (fun _ => ?_) (fun h_ => absurd (by decide) h_)
      refine k_iload f164_32 rfl ?_
      refine k_iconst (v := 2) f164_33 rfl ?_
      refine k_ic_ne f164_34 (fun h_ => absurd (by decide) h_) (fun _ => ?_)
      refine k_aload f164_37 rfl ?_
      refine k_iload f164_38 rfl ?_
      refine e_v (as := [.int (person)]) (rest := []) f164_39 hS.o51 rfl rfl rfl (s_metBy hR hS rfl hm1 (by omega) hne) ?_
      refine k_iret f164_42 rfl ⟨rfl, ?_⟩
      exact inv_q hI (by omega) Kq.rfl KS.rfl
  · show zOk x 399 78 0 [.ref 0, .int (person), .int (what)] [] _ _
    refine k_aload f78_0 rfl ?_
    refine k_iload f78_1 rfl ?_
    refine e_v (as := [.int (person)]) (rest := []) f78_2 hS.o0 rfl rfl rfl (s_hasPerson hR hS hst) ?_
    refine k_bne f78_5 (fun h_ => absurd h_ (hP)) (fun _ => ?_)
    refine k_iconst (v := (-1)) f78_8 rfl ?_
    refine k_iret f78_9 rfl ⟨_, rfl, ?_⟩
    show zOk x 399 164 0 [.ref 51, .int (person), .int (what), zU, zU] [] _ _
    refine k_aload f164_0 rfl ?_
    refine k_iload f164_1 rfl ?_
    refine e_v (as := [.int (person)]) (rest := []) f164_2 hS.o51 rfl rfl rfl (s_isPerson (w := I 62 0) hR hS rfl) ?_
    refine k_beq f164_5 (fun _ => ?_) (fun h_ => (absurd h_ (hP)))
    refine k_iconst (v := (-1)) f164_20 rfl ?_
    refine k_iret f164_21 rfl ⟨rfl, ?_⟩
    exact inv_q hI (by omega) Kq.rfl KS.rfl
theorem op_count {x : Nat × (Nat → Int32)} (what : Int32) : Op Inv x 95 202 [.int what] := by
  refine Op.of2 fun j I J R G hj hI => ?_
  have hS : Sh G := hI.1
  have hR : Rs R := hI.2.1
  have hT1 : Rg (I 9 1) 401 := hI.2.2.2.2.1.1
  have hT2 : I 51 1 = I 9 1 := hI.2.2.2.2.1.2.1
  have hN1 : Rg (I 0 4) 7 := hI.2.2.2.2.2.1.1
  have hN2 : I 51 2 = I 0 4 := hI.2.2.2.2.2.1.2.1
  have hN3 : ∀ t, t < cl (I 0 4) → ∃ r, R 16 t = some r ∧ RuR I R G t r := hI.2.2.2.2.2.1.2.2
  obtain ⟨pl, hst⟩ : ∃ pl, StR I R G 17 pl (I 62) := hI.2.2.2.2.2.2.1
  have hO : SOk (I 62) (cl (I 0 4)) := hI.2.2.2.2.2.2.2.1
  have hn1 : I 62 1 = nI (cl (I 62 1)) := hO.2.1.1
  have hn8 : cl (I 62 1) ≤ 8 := Nat.le_of_lt_succ hO.2.1.2
  have hm1 : I 62 2 = nI (cl (I 62 2)) := hO.2.2.1.1
  have hm8 : cl (I 62 2) ≤ 24 := Nat.le_of_lt_succ hO.2.2.1.2
  have hne : ∀ m, m < cl (I 62 2) → I 62 (56 + 3 * m + 1) ≠ I 62 (56 + 3 * m + 2) := fun m hm => (hO.2.2.2.2.2.2.2.2 m hm).2.2.2
  have htl : ∀ c, c < cl (I 62 1) → I 62 (131 + c) = -1 ∨ Rg (I 62 (131 + c)) 2 := fun c hc => (hO.2.2.2.2.2.2.2.1 c hc).2.2.2.2.2.1
  rcases sw12 what with ho | rfl | rfl | rfl | rfl | rfl | rfl | rfl | rfl | rfl | rfl | rfl | rfl
  · show zOk x 399 95 0 [.ref 0, .int (what)] [] _ _
    refine k_iload f95_0 rfl ?_
    refine k_tsout f95_1 (sw_o (b := 11) (by decide) ho) ?_
    refine k_iconst (v := (-1)) f95_172 rfl ?_
    refine k_iret f95_173 rfl ⟨_, rfl, ?_⟩
    show zOk x 399 202 0 [.ref 51, .int (what), zU, zU] [] _ _
    refine k_iconst (v := 0) f202_0 rfl ?_
    refine k_istore (L' := [.ref 51, .int (what), .int (0), zU]) f202_1 rfl rfl ?_
    refine k_iload f202_2 rfl ?_
    refine k_tsout f202_3 (sw_o (b := 11) (by decide) ho) ?_
    refine k_iconst (v := (-1)) f202_153 rfl ?_
    refine k_iret f202_154 rfl ⟨rfl, ?_⟩
    exact inv_q hI (by omega) Kq.rfl KS.rfl
  · show zOk x 399 95 0 [.ref 0, .int (0)] [] _ _
    refine k_iload f95_0 rfl ?_
    refine k_tsin (t := 64) f95_1 (by decide) (by decide) rfl rfl ?_
    refine k_aload f95_64 rfl ?_
    refine k_getr (q := 17) f95_65 hS.o0 rfl hR.r0_5 ?_
    refine k_getr (q := pl) f95_68 hS.o17 rfl hst.2.1 ?_
    refine k_gI (w := I 62 0) f95_71 hst.2.2.1.2.1 rfl hst.2.2.2.1.1 ?_
    refine k_iret f95_74 rfl ⟨_, rfl, ?_⟩
    show zOk x 399 202 0 [.ref 51, .int (0), zU, zU] [] _ _
    refine k_iconst (v := 0) f202_0 rfl ?_
    refine k_istore (L' := [.ref 51, .int (0), .int (0), zU]) f202_1 rfl rfl ?_
    refine k_iload f202_2 rfl ?_
    refine k_tsin (t := 64) f202_3 (by decide) (by decide) rfl rfl ?_
    refine k_aload f202_64 rfl ?_
    refine k_getr (q := 62) f202_65 hS.o51 rfl hR.r51_25 ?_
    refine k_iload f202_68 rfl ?_
    refine k_ia (k := 0) (w := I 62 0) f202_69 hS.a62 rfl (by decide) (by decide) rfl ?_
    refine k_iret f202_70 rfl ⟨rfl, ?_⟩
    exact inv_q hI (by omega) Kq.rfl KS.rfl
  · show zOk x 399 95 0 [.ref 0, .int (1)] [] _ _
    refine k_iload f95_0 rfl ?_
    refine k_tsin (t := 75) f95_1 (by decide) (by decide) rfl rfl ?_
    refine k_aload f95_75 rfl ?_
    refine k_getr (q := 17) f95_76 hS.o0 rfl hR.r0_5 ?_
    refine k_getr (q := pl) f95_79 hS.o17 rfl hst.2.1 ?_
    refine k_gI (w := I 62 1) f95_82 hst.2.2.1.2.1 rfl hst.2.2.2.1.2.2.1 ?_
    refine k_iret f95_85 rfl ⟨_, rfl, ?_⟩
    show zOk x 399 202 0 [.ref 51, .int (1), zU, zU] [] _ _
    refine k_iconst (v := 0) f202_0 rfl ?_
    refine k_istore (L' := [.ref 51, .int (1), .int (0), zU]) f202_1 rfl rfl ?_
    refine k_iload f202_2 rfl ?_
    refine k_tsin (t := 64) f202_3 (by decide) (by decide) rfl rfl ?_
    refine k_aload f202_64 rfl ?_
    refine k_getr (q := 62) f202_65 hS.o51 rfl hR.r51_25 ?_
    refine k_iload f202_68 rfl ?_
    refine k_ia (k := 1) (w := I 62 1) f202_69 hS.a62 rfl (by decide) (by decide) rfl ?_
    refine k_iret f202_70 rfl ⟨rfl, ?_⟩
    exact inv_q hI (by omega) Kq.rfl KS.rfl
  · show zOk x 399 95 0 [.ref 0, .int (2)] [] _ _
    refine k_iload f95_0 rfl ?_
    refine k_tsin (t := 86) f95_1 (by decide) (by decide) rfl rfl ?_
    refine k_aload f95_86 rfl ?_
    refine k_getr (q := 17) f95_87 hS.o0 rfl hR.r0_5 ?_
    refine k_getr (q := pl) f95_90 hS.o17 rfl hst.2.1 ?_
    refine k_gI (w := I 62 2) f95_93 hst.2.2.1.2.1 rfl hst.2.2.2.1.2.2.2.1 ?_
    refine k_iret f95_96 rfl ⟨_, rfl, ?_⟩
    show zOk x 399 202 0 [.ref 51, .int (2), zU, zU] [] _ _
    refine k_iconst (v := 0) f202_0 rfl ?_
    refine k_istore (L' := [.ref 51, .int (2), .int (0), zU]) f202_1 rfl rfl ?_
    refine k_iload f202_2 rfl ?_
    refine k_tsin (t := 64) f202_3 (by decide) (by decide) rfl rfl ?_
    refine k_aload f202_64 rfl ?_
    refine k_getr (q := 62) f202_65 hS.o51 rfl hR.r51_25 ?_
    refine k_iload f202_68 rfl ?_
    refine k_ia (k := 2) (w := I 62 2) f202_69 hS.a62 rfl (by decide) (by decide) rfl ?_
    refine k_iret f202_70 rfl ⟨rfl, ?_⟩
    exact inv_q hI (by omega) Kq.rfl KS.rfl
  · show zOk x 399 95 0 [.ref 0, .int (3)] [] _ _
    refine k_iload f95_0 rfl ?_
    refine k_tsin (t := 97) f95_1 (by decide) (by decide) rfl rfl ?_
    refine k_aload f95_97 rfl ?_
    refine k_getr (q := 17) f95_98 hS.o0 rfl hR.r0_5 ?_
    refine k_gI (w := I 62 3) f95_101 hS.o17 rfl hst.2.2.2.2.1 ?_
    refine k_iret f95_104 rfl ⟨_, rfl, ?_⟩
    show zOk x 399 202 0 [.ref 51, .int (3), zU, zU] [] _ _
    refine k_iconst (v := 0) f202_0 rfl ?_
    refine k_istore (L' := [.ref 51, .int (3), .int (0), zU]) f202_1 rfl rfl ?_
    refine k_iload f202_2 rfl ?_
    refine k_tsin (t := 64) f202_3 (by decide) (by decide) rfl rfl ?_
    refine k_aload f202_64 rfl ?_
    refine k_getr (q := 62) f202_65 hS.o51 rfl hR.r51_25 ?_
    refine k_iload f202_68 rfl ?_
    refine k_ia (k := 3) (w := I 62 3) f202_69 hS.a62 rfl (by decide) (by decide) rfl ?_
    refine k_iret f202_70 rfl ⟨rfl, ?_⟩
    exact inv_q hI (by omega) Kq.rfl KS.rfl
  · show zOk x 399 95 0 [.ref 0, .int (4)] [] _ _
    refine k_iload f95_0 rfl ?_
    refine k_tsin (t := 105) f95_1 (by decide) (by decide) rfl rfl ?_
    refine k_aload f95_105 rfl ?_
    refine k_getr (q := 17) f95_106 hS.o0 rfl hR.r0_5 ?_
    refine k_gI (w := I 62 4) f95_109 hS.o17 rfl hst.2.2.2.2.2.1 ?_
    refine k_iret f95_112 rfl ⟨_, rfl, ?_⟩
    show zOk x 399 202 0 [.ref 51, .int (4), zU, zU] [] _ _
    refine k_iconst (v := 0) f202_0 rfl ?_
    refine k_istore (L' := [.ref 51, .int (4), .int (0), zU]) f202_1 rfl rfl ?_
    refine k_iload f202_2 rfl ?_
    refine k_tsin (t := 64) f202_3 (by decide) (by decide) rfl rfl ?_
    refine k_aload f202_64 rfl ?_
    refine k_getr (q := 62) f202_65 hS.o51 rfl hR.r51_25 ?_
    refine k_iload f202_68 rfl ?_
    refine k_ia (k := 4) (w := I 62 4) f202_69 hS.a62 rfl (by decide) (by decide) rfl ?_
    refine k_iret f202_70 rfl ⟨rfl, ?_⟩
    exact inv_q hI (by omega) Kq.rfl KS.rfl
  · show zOk x 399 95 0 [.ref 0, .int (5)] [] _ _
    refine k_iload f95_0 rfl ?_
    refine k_tsin (t := 113) f95_1 (by decide) (by decide) rfl rfl ?_
    refine k_aload f95_113 rfl ?_
    refine k_gI (w := I 0 4) f95_114 hS.o0 rfl rfl ?_
    refine k_iret f95_117 rfl ⟨_, rfl, ?_⟩
    show zOk x 399 202 0 [.ref 51, .int (5), zU, zU] [] _ _
    refine k_iconst (v := 0) f202_0 rfl ?_
    refine k_istore (L' := [.ref 51, .int (5), .int (0), zU]) f202_1 rfl rfl ?_
    refine k_iload f202_2 rfl ?_
    refine k_tsin (t := 71) f202_3 (by decide) (by decide) rfl rfl ?_
    refine k_aload f202_71 rfl ?_
    refine k_gI (w := I 0 4) f202_72 hS.o51 rfl hN2 ?_
    refine k_iret f202_75 rfl ⟨rfl, ?_⟩
    exact inv_q hI (by omega) Kq.rfl KS.rfl
  · show zOk x 399 95 0 [.ref 0, .int (6)] [] _ _
    refine k_iload f95_0 rfl ?_
    refine k_tsin (t := 118) f95_1 (by decide) (by decide) rfl rfl ?_
    refine k_aload f95_118 rfl ?_
    refine k_getr (q := 17) f95_119 hS.o0 rfl hR.r0_5 ?_
    refine k_gI (w := I 62 6) f95_122 hS.o17 rfl hst.2.2.2.2.2.2.1 ?_
    refine k_iret f95_125 rfl ⟨_, rfl, ?_⟩
    show zOk x 399 202 0 [.ref 51, .int (6), zU, zU] [] _ _
    refine k_iconst (v := 0) f202_0 rfl ?_
    refine k_istore (L' := [.ref 51, .int (6), .int (0), zU]) f202_1 rfl rfl ?_
    refine k_iload f202_2 rfl ?_
    refine k_tsin (t := 76) f202_3 (by decide) (by decide) rfl rfl ?_
    refine k_aload f202_76 rfl ?_
    refine k_getr (q := 62) f202_77 hS.o51 rfl hR.r51_25 ?_
    refine k_iconst (v := 6) f202_80 rfl ?_
    refine k_ia (k := 6) (w := I 62 6) f202_82 hS.a62 rfl (by decide) (by decide) rfl ?_
    refine k_iret f202_83 rfl ⟨rfl, ?_⟩
    exact inv_q hI (by omega) Kq.rfl KS.rfl
  · show zOk x 399 95 0 [.ref 0, .int (7)] [] _ _
    refine k_iload f95_0 rfl ?_
    refine k_tsin (t := 126) f95_1 (by decide) (by decide) rfl rfl ?_
    refine k_aload f95_126 rfl ?_
    refine k_getr (q := 17) f95_127 hS.o0 rfl hR.r0_5 ?_
    refine k_getr (q := pl) f95_130 hS.o17 rfl hst.2.1 ?_
    refine k_gI (w := I 62 7) f95_133 hst.2.2.1.2.1 rfl hst.2.2.2.1.2.1 ?_
    refine k_iret f95_136 rfl ⟨_, rfl, ?_⟩
    show zOk x 399 202 0 [.ref 51, .int (7), zU, zU] [] _ _
    refine k_iconst (v := 0) f202_0 rfl ?_
    refine k_istore (L' := [.ref 51, .int (7), .int (0), zU]) f202_1 rfl rfl ?_
    refine k_iload f202_2 rfl ?_
    refine k_tsin (t := 84) f202_3 (by decide) (by decide) rfl rfl ?_
    refine k_aload f202_84 rfl ?_
    refine k_getr (q := 62) f202_85 hS.o51 rfl hR.r51_25 ?_
    refine k_iconst (v := 7) f202_88 rfl ?_
    refine k_ia (k := 7) (w := I 62 7) f202_90 hS.a62 rfl (by decide) (by decide) rfl ?_
    refine k_iret f202_91 rfl ⟨rfl, ?_⟩
    exact inv_q hI (by omega) Kq.rfl KS.rfl
  · show zOk x 399 95 0 [.ref 0, .int (8)] [] _ _
    refine k_iload f95_0 rfl ?_
    refine k_tsin (t := 137) f95_1 (by decide) (by decide) rfl rfl ?_
    refine k_aload f95_137 rfl ?_
    refine k_getr (q := 17) f95_138 hS.o0 rfl hR.r0_5 ?_
    refine e_v (as := []) (rest := []) f95_141 hS.o17 rfl rfl rfl (s_toldCoins (st := 17) hst hn1 hn8) ?_
    refine k_iret f95_144 rfl ⟨_, rfl, ?_⟩
    show zOk x 399 202 0 [.ref 51, .int (8), zU, zU] [] _ _
    refine k_iconst (v := 0) f202_0 rfl ?_
    refine k_istore (L' := [.ref 51, .int (8), .int (0), zU]) f202_1 rfl rfl ?_
    refine k_iload f202_2 rfl ?_
    refine k_tsin (t := 92) f202_3 (by decide) (by decide) rfl rfl ?_
    refine k_iconst (v := 0) f202_92 rfl ?_
    refine k_istore (L' := [.ref 51, .int (8), .int (0), .int (0)]) f202_93 rfl rfl ?_
    refine zOk.imp (lp_countT hR hS rfl hn1 hn8 htl (cl (I 62 1)) 0 (by omega)) ?_
    rintro _ _ ⟨rfl, rfl⟩
    exact ⟨rfl, inv_q hI (by omega) Kq.rfl KS.rfl⟩
  · show zOk x 399 95 0 [.ref 0, .int (9)] [] _ _
    refine k_iload f95_0 rfl ?_
    refine k_tsin (t := 145) f95_1 (by decide) (by decide) rfl rfl ?_
    refine k_aload f95_145 rfl ?_
    refine k_getr (q := 17) f95_146 hS.o0 rfl hR.r0_5 ?_
    refine k_gI (w := I 62 5) f95_149 hS.o17 rfl hst.2.2.2.2.2.2.2.1 ?_
    refine k_iret f95_152 rfl ⟨_, rfl, ?_⟩
    show zOk x 399 202 0 [.ref 51, .int (9), zU, zU] [] _ _
    refine k_iconst (v := 0) f202_0 rfl ?_
    refine k_istore (L' := [.ref 51, .int (9), .int (0), zU]) f202_1 rfl rfl ?_
    refine k_iload f202_2 rfl ?_
    refine k_tsin (t := 133) f202_3 (by decide) (by decide) rfl rfl ?_
    refine k_aload f202_133 rfl ?_
    refine k_getr (q := 62) f202_134 hS.o51 rfl hR.r51_25 ?_
    refine k_iconst (v := 5) f202_137 rfl ?_
    refine k_ia (k := 5) (w := I 62 5) f202_138 hS.a62 rfl (by decide) (by decide) rfl ?_
    refine k_iret f202_139 rfl ⟨rfl, ?_⟩
    exact inv_q hI (by omega) Kq.rfl KS.rfl
  · show zOk x 399 95 0 [.ref 0, .int (10)] [] _ _
    refine k_iload f95_0 rfl ?_
    refine k_tsin (t := 153) f95_1 (by decide) (by decide) rfl rfl ?_
    refine k_aload f95_153 rfl ?_
    refine k_getr (q := 9) f95_154 hS.o0 rfl hR.r0_0 ?_
    refine k_gI (w := I 9 1) f95_157 hS.o9 rfl rfl ?_
    refine k_iret f95_160 rfl ⟨_, rfl, ?_⟩
    show zOk x 399 202 0 [.ref 51, .int (10), zU, zU] [] _ _
    refine k_iconst (v := 0) f202_0 rfl ?_
    refine k_istore (L' := [.ref 51, .int (10), .int (0), zU]) f202_1 rfl rfl ?_
    refine k_iload f202_2 rfl ?_
    refine k_tsin (t := 140) f202_3 (by decide) (by decide) rfl rfl ?_
    refine k_aload f202_140 rfl ?_
    refine k_gI (w := I 9 1) f202_141 hS.o51 rfl hT2 ?_
    refine k_iret f202_144 rfl ⟨rfl, ?_⟩
    exact inv_q hI (by omega) Kq.rfl KS.rfl
  · obtain ⟨k, hk, ek⟩ := acc_bits (fV_or (I 62)) (cl (I 62 1)) (by omega)
    have hk : k < 1024 := Nat.lt_of_lt_of_le hk (Nat.pow_le_pow_right (by omega) (by omega : cl (I 62 1) ≤ 10))
    show zOk x 399 95 0 [.ref 0, .int (11)] [] _ _
    refine k_iload f95_0 rfl ?_
    refine k_tsin (t := 161) f95_1 (by decide) (by decide) rfl rfl ?_
    refine k_aload f95_161 rfl ?_
    refine k_getr (q := 17) f95_162 hS.o0 rfl hR.r0_5 ?_
    refine e_v (as := []) (rest := []) f95_165 hS.o17 rfl rfl rfl (ek ▸ s_voids (st := 17) hst hn1 hn8) ?_
    refine e_s (as := [.int (nI k)]) (rest := []) f95_168 rfl rfl rfl (s_bitCount hk) ?_
    refine k_iret f95_171 rfl ⟨_, rfl, ?_⟩
    show zOk x 399 202 0 [.ref 51, .int (11), zU, zU] [] _ _
    refine k_iconst (v := 0) f202_0 rfl ?_
    refine k_istore (L' := [.ref 51, .int (11), .int (0), zU]) f202_1 rfl rfl ?_
    refine k_iload f202_2 rfl ?_
    refine k_tsin (t := 145) f202_3 (by decide) (by decide) rfl rfl ?_
    refine k_aload f202_145 rfl ?_
    refine e_v (as := []) (rest := []) f202_146 hS.o51 rfl rfl rfl (ek ▸ s_voidOnes hR hS rfl hn1 hn8) ?_
    refine e_s (as := [.int (nI k)]) (rest := []) f202_149 rfl rfl rfl (s_bits hk) ?_
    refine k_iret f202_152 rfl ⟨rfl, ?_⟩
    exact inv_q hI (by omega) Kq.rfl KS.rfl
