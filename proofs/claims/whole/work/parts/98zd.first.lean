/-! THE FIRST DAY home, in the class. -/
theorem sv_le {ba : (Nat → Int64) → Bool} {s : Nat → Int32} {n : Nat} {nu wo sp : Int32} {h a b : Nat} {th : Int32} : sv ba s n nu wo sp h a b th ≤ 2 := by
  unfold sv
  split
  · omega
  · split
    · omega
    · split <;> omega
theorem wyV_le {ba : (Nat → Int64) → Bool} {s : Nat → Int32} {n : Nat} {nu wo sp fr : Int32} {h a b : Nat} {th : Int32} : wyV ba s n nu wo sp fr h a b th ≤ 2 := by
  unfold wyV stV
  split
  · split
    · exact sv_le
    · omega
  · omega
theorem n_2 {w : Nat} (h : w ≤ 2) : nI w = 2 ↔ w = 2 := nI_eq (b := 2) (by omega) (by omega)
theorem n_1 {w : Nat} (h : w ≤ 2) : nI w = 1 ↔ w = 1 := nI_eq (b := 1) (by omega) (by omega)
def fdH (w1 w2 a b r : Nat) : Prop := (r.testBit a = true ∧ w1 = 2) ∨ (r.testBit b = true ∧ w2 = 2)
def fdS (w1 w2 a b r : Nat) : Nat := if r.testBit b = true ∧ w2 = 1 then (if r.testBit a = true ∧ w1 = 1 then r ||| 2 ^ b else r) ||| 2 ^ a else if r.testBit a = true ∧ w1 = 1 then r ||| 2 ^ b else r
/-- over the meetings by their days from the i-th on: the day, and who could have it -/
def fdC (w1 w2 oa ob om : Nat → Nat) (od : Nat → Int32) (g : Nat) : Nat → Nat → Nat → Int32 × Nat
  | 0, _, r => (-2, r)
  | k + 1, i, r => if g.testBit (om i) = true then fdC w1 w2 oa ob om od g k (i + 1) r else if (r.testBit (oa i) = true ∧ w1 i = 2) ∨ (r.testBit (ob i) = true ∧ w2 i = 2) then (od i, r) else fdC w1 w2 oa ob om od g k (i + 1) (fdS (w1 i) (w2 i) (oa i) (ob i) r)
theorem fd_g {w1 w2 oa ob om : Nat → Nat} {od : Nat → Int32} {g k i r : Nat} (h : g.testBit (om i) = true) : fdC w1 w2 oa ob om od g (k + 1) i r = fdC w1 w2 oa ob om od g k (i + 1) r := by
  rw [fdC, if_pos h]
theorem fd_h {w1 w2 oa ob om : Nat → Nat} {od : Nat → Int32} {g k i r : Nat} (h : ¬ g.testBit (om i) = true) (hh : (r.testBit (oa i) = true ∧ w1 i = 2) ∨ (r.testBit (ob i) = true ∧ w2 i = 2)) : fdC w1 w2 oa ob om od g (k + 1) i r = (od i, r) := by
  rw [fdC, if_neg h, if_pos hh]
theorem fd_s {w1 w2 oa ob om : Nat → Nat} {od : Nat → Int32} {g k i r r' : Nat} (h : ¬ g.testBit (om i) = true) (hh : ¬ ((r.testBit (oa i) = true ∧ w1 i = 2) ∨ (r.testBit (ob i) = true ∧ w2 i = 2))) (e : fdS (w1 i) (w2 i) (oa i) (ob i) r = r') : fdC w1 w2 oa ob om od g (k + 1) i r = fdC w1 w2 oa ob om od g k (i + 1) r' := by
  rw [fdC, if_neg h, if_neg hh, e]
theorem lp_fd {x : Nat × (Nat → Int32)} {d : Nat} {J : Nat → Nat → Int64} {R : Nat → Nat → Option Nat} {G : zG} {I0 : Nat → Nat → Int32} {pl m g : Nat} {s : Nat → Int32} {w1 w2 oa ob om : Nat → Nat} {od : Nat → Int32} (hR : Rs R) (hS : Sh G) (hst0 : StR I0 R G 17 pl s) (h8 : cl (s 1) ≤ 8) (hs2 : s 2 = nI m) (hm24 : m ≤ 24) (hg : g < 2 ^ 31) (hom : ∀ k, k < m → I0 (pl + 7) k = nI (om k) ∧ om k < m) (hod : ∀ k, k < m → s (56 + 3 * om k) = od k) (hoa : ∀ k, k < m → s (56 + 3 * om k + 1) = nI (oa k) ∧ oa k < 10) (hob : ∀ k, k < m → s (56 + 3 * om k + 2) = nI (ob k) ∧ ob k < 10) (hw1 : ∀ k, k < m → I0 44 k = nI (w1 k) ∧ w1 k ≤ 2) (hw2 : ∀ k, k < m → I0 45 k = nI (w2 k) ∧ w2 k ≤ 2) : ∀ (f i : Nat) (rc : Nat) (I : Nat → Nat → Int32) (u4 u5 u6 : Value), i + f = m → (I 43 9 = nI rc ∧ rc < 1024 ∧ (∀ p k, ¬ (p = 43 ∧ k = 9) → I p k = I0 p k)) → zOk x (d + 1) 68 35 [.ref 43, .int (nI g), .ref pl, .int (nI i), u4, u5, u6] [] (I, J, R, G) (fun v mm => v = some (.int (fdC w1 w2 oa ob om od g f i rc).1) ∧ ∃ I', mm = (I', J, R, G) ∧ I' 43 9 = nI (fdC w1 w2 oa ob om od g f i rc).2 ∧ (∀ p k, ¬ (p = 43 ∧ k = 9) → I' p k = I0 p k)) := by
  intro f
  induction f with
  | zero =>
    intro i rc I u4 u5 u6 hi hz
    obtain ⟨h9, hrc, hfr⟩ := hz
    have hpl := hst0.2.2.1.1
    have hst : StR I R G 17 pl s := hst0.keep h8 Gk.rfl (fun p k _ hp => hfr p k (by omega)) (fun _ _ _ _ => rfl)
    refine k_iload f68_35 rfl ?_
    refine k_aload f68_36 rfl ?_
    refine k_gI (w := nI m) f68_37 hst.2.2.1.2.1 rfl (hst.2.2.2.1.2.2.2.1.trans hs2) ?_
    refine k_ic_ge f68_40 (fun _ => ?_) (fun h_ => absurd (nI_le (by omega) (by omega)) h_)
    refine k_iconst (v := (-2)) f68_192 rfl ?_
    exact k_iret f68_194 rfl ⟨rfl, I, rfl, h9, hfr⟩
  | succ f ih =>
    intro i rc I u4 u5 u6 hi hz
    obtain ⟨h9, hrc, hfr⟩ := hz
    have hpl := hst0.2.2.1.1
    have hst : StR I R G 17 pl s := hst0.keep h8 Gk.rfl (fun p k _ hp => hfr p k (by omega)) (fun _ _ _ _ => rfl)
    have hin : i < m := by omega
    obtain ⟨hmk, hj⟩ := hom i hin
    have mk : I (pl + 7) i = nI (om i) := (hfr _ _ (by omega)).trans hmk
    have c2 : cl (s 2) = m := by rw [hs2, cl_nI (by omega)]
    have mt := hst.2.2.2.1.2.2.2.2 (om i) (by omega)
    obtain ⟨va, la⟩ := hoa i hin
    obtain ⟨vb, lb⟩ := hob i hin
    have vd := hod i hin
    have x1 : I 44 i = nI (w1 i) := (hfr _ _ (by omega)).trans (hw1 i hin).1
    have x2 : I 45 i = nI (w2 i) := (hfr _ _ (by omega)).trans (hw2 i hin).1
    have l1 := (hw1 i hin).2
    have l2 := (hw2 i hin).2
    have pa : 2 ^ oa i < 1024 := Nat.lt_of_lt_of_le (Nat.pow_lt_pow_right (by omega) la) (Nat.le_refl _)
    have pb : 2 ^ ob i < 1024 := Nat.lt_of_lt_of_le (Nat.pow_lt_pow_right (by omega) lb) (Nat.le_refl _)
    refine k_iload f68_35 rfl ?_
    refine k_aload f68_36 rfl ?_
    refine k_gI (w := nI m) f68_37 hst.2.2.1.2.1 rfl (hst.2.2.2.1.2.2.2.1.trans hs2) ?_
    refine k_ic_ge f68_40 (fun h_ => absurd h_ (nI_ge hin (by omega))) (fun _ => ?_)
    refine k_aload f68_43 rfl ?_
    refine k_getr (q := pl + 7) f68_44 hst.2.2.1.2.1 rfl (hst.2.2.1.2.2.1 6 (by omega)) ?_
    refine k_iload f68_47 rfl ?_
    refine k_ia (k := i) (w := nI (om i)) f68_48 (hst.2.2.1.2.2.2.2 3 (by omega)) rfl (by omega) (by decide) mk ?_
    refine k_istore (L' := [.ref 43, .int (nI g), .ref pl, .int (nI i), .int (nI (om i)), u5, u6]) f68_49 rfl rfl ?_
    refine k_aload f68_51 rfl ?_
    refine k_gI (w := nI rc) f68_52 hS.o43 rfl h9 ?_
    refine k_aload f68_55 rfl ?_
    refine k_getr (q := pl + 5) f68_56 hst.2.2.1.2.1 rfl (hst.2.2.1.2.2.1 4 (by omega)) ?_
    refine k_iload f68_59 rfl ?_
    refine k_ia (k := (om i)) (w := nI (oa i)) f68_61 (hst.2.2.1.2.2.2.2 1 (by omega)) rfl (by omega) (by decide) (mt.2.1.trans va) ?_
    refine e_s (as := [.int (nI (oa i)), .int (nI rc)]) (rest := []) f68_62 rfl rfl rfl (s_has (b := rc) (p := (oa i)) (by omega) (by omega)) ?_
    refine k_beq f68_65 (fun g0 => ?_) (fun g0 => ?_)
    · refine k_iconst (v := 0) f68_77 rfl ?_
      refine k_istore (L' := [.ref 43, .int (nI g), .ref pl, .int (nI i), .int (nI (om i)), .int (0), u6]) f68_78 rfl rfl ?_
      refine k_aload f68_80 rfl ?_
      refine k_gI (w := nI rc) f68_81 hS.o43 rfl h9 ?_
      refine k_aload f68_84 rfl ?_
      refine k_getr (q := pl + 6) f68_85 hst.2.2.1.2.1 rfl (hst.2.2.1.2.2.1 5 (by omega)) ?_
      refine k_iload f68_88 rfl ?_
      refine k_ia (k := (om i)) (w := nI (ob i)) f68_90 (hst.2.2.1.2.2.2.2 2 (by omega)) rfl (by omega) (by decide) (mt.2.2.1.trans vb) ?_
      refine e_s (as := [.int (nI (ob i)), .int (nI rc)]) (rest := []) f68_91 rfl rfl rfl (s_has (b := rc) (p := (ob i)) (by omega) (by omega)) ?_
      refine k_beq f68_94 (fun g1 => ?_) (fun g1 => ?_)
      · refine k_iconst (v := 0) f68_106 rfl ?_
        refine k_istore (L' := [.ref 43, .int (nI g), .ref pl, .int (nI i), .int (nI (om i)), .int (0), .int (0)]) f68_107 rfl rfl ?_
        refine k_iload f68_109 rfl ?_
        refine k_iload f68_110 rfl ?_
        refine e_s (as := [.int (nI (om i)), .int (nI g)]) (rest := []) f68_112 rfl rfl rfl (s_has (b := g) (p := (om i)) (by omega) (by omega)) ?_
        refine k_bne f68_115 (fun g2 => ?_) (fun g2 => ?_)
        · refine k_iinc (w := nI (i + 1)) (L' := [.ref 43, .int (nI g), .ref pl, .int (nI (i + 1)), .int (nI (om i)), .int (0), .int (0)]) f68_186 rfl (nI_1 i) rfl rfl ?_
          refine k_goto f68_189 ?_
          rw [fd_g g2]
          exact ih (i + 1) rc I _ _ _ (by omega) ⟨h9, hrc, hfr⟩
        · refine k_iload f68_118 rfl ?_
          refine k_iconst (v := 2) f68_120 rfl ?_
          refine k_ic_eq f68_121 (fun h_ => absurd h_ (by decide)) (fun _ => ?_)
          refine k_iload f68_124 rfl ?_
          refine k_iconst (v := 2) f68_126 rfl ?_
          refine k_ic_ne f68_127 (fun _ => ?_) (fun h_ => absurd (by decide) h_)
          refine k_iload f68_138 rfl ?_
          refine k_iconst (v := 1) f68_140 rfl ?_
          refine k_ic_ne f68_141 (fun _ => ?_) (fun h_ => absurd (by decide) h_)
          refine k_iload f68_162 rfl ?_
          refine k_iconst (v := 1) f68_164 rfl ?_
          refine k_ic_ne f68_165 (fun _ => ?_) (fun h_ => absurd (by decide) h_)
          refine k_iinc (w := nI (i + 1)) (L' := [.ref 43, .int (nI g), .ref pl, .int (nI (i + 1)), .int (nI (om i)), .int (0), .int (0)]) f68_186 rfl (nI_1 i) rfl rfl ?_
          refine k_goto f68_189 ?_
          rw [fd_s (r' := rc) g2 (fun y => y.elim (fun x => g0 x.1) (fun x => g1 x.1)) (by unfold fdS; rw [if_neg (fun x => g1 x.1), if_neg (fun x => g0 x.1)])]
          exact ih (i + 1) rc I _ _ _ (by omega) ⟨h9, hrc, hfr⟩
      · refine k_aload f68_97 rfl ?_
        refine k_getr (q := 45) f68_98 hS.o43 rfl hR.r43_8 ?_
        refine k_iload f68_101 rfl ?_
        refine k_ia (k := i) (w := nI (w2 i)) f68_102 hS.a45 rfl (by omega) (by decide) x2 ?_
        refine k_goto f68_103 ?_
        refine k_istore (L' := [.ref 43, .int (nI g), .ref pl, .int (nI i), .int (nI (om i)), .int (0), .int (nI (w2 i))]) f68_107 rfl rfl ?_
        refine k_iload f68_109 rfl ?_
        refine k_iload f68_110 rfl ?_
        refine e_s (as := [.int (nI (om i)), .int (nI g)]) (rest := []) f68_112 rfl rfl rfl (s_has (b := g) (p := (om i)) (by omega) (by omega)) ?_
        refine k_bne f68_115 (fun g2 => ?_) (fun g2 => ?_)
        · refine k_iinc (w := nI (i + 1)) (L' := [.ref 43, .int (nI g), .ref pl, .int (nI (i + 1)), .int (nI (om i)), .int (0), .int (nI (w2 i))]) f68_186 rfl (nI_1 i) rfl rfl ?_
          refine k_goto f68_189 ?_
          rw [fd_g g2]
          exact ih (i + 1) rc I _ _ _ (by omega) ⟨h9, hrc, hfr⟩
        · refine k_iload f68_118 rfl ?_
          refine k_iconst (v := 2) f68_120 rfl ?_
          refine k_ic_eq f68_121 (fun h_ => absurd h_ (by decide)) (fun _ => ?_)
          refine k_iload f68_124 rfl ?_
          refine k_iconst (v := 2) f68_126 rfl ?_
          refine k_ic_ne f68_127 (fun g3 => ?_) (fun g3 => ?_)
          · refine k_iload f68_138 rfl ?_
            refine k_iconst (v := 1) f68_140 rfl ?_
            refine k_ic_ne f68_141 (fun _ => ?_) (fun h_ => absurd (by decide) h_)
            refine k_iload f68_162 rfl ?_
            refine k_iconst (v := 1) f68_164 rfl ?_
            refine k_ic_ne f68_165 (fun g4 => ?_) (fun g4 => ?_)
            · refine k_iinc (w := nI (i + 1)) (L' := [.ref 43, .int (nI g), .ref pl, .int (nI (i + 1)), .int (nI (om i)), .int (0), .int (nI (w2 i))]) f68_186 rfl (nI_1 i) rfl rfl ?_
              refine k_goto f68_189 ?_
              rw [fd_s (r' := rc) g2 (fun y => y.elim (fun x => g0 x.1) (fun x => g3 ((n_2 l2).mpr x.2))) (by unfold fdS; rw [if_neg (fun x => g4 ((n_1 l2).mpr x.2)), if_neg (fun x => g0 x.1)])]
              exact ih (i + 1) rc I _ _ _ (by omega) ⟨h9, hrc, hfr⟩
            · refine k_aload f68_168 rfl ?_
              refine k_dup f68_169 ?_
              refine k_gI (w := nI rc) f68_170 hS.o43 rfl h9 ?_
              refine k_iconst (v := 1) f68_173 rfl ?_
              refine k_aload f68_174 rfl ?_
              refine k_getr (q := pl + 5) f68_175 hst.2.2.1.2.1 rfl (hst.2.2.1.2.2.1 4 (by omega)) ?_
              refine k_iload f68_178 rfl ?_
              refine k_ia (k := (om i)) (w := nI (oa i)) f68_180 (hst.2.2.1.2.2.2.2 1 (by omega)) rfl (by omega) (by decide) (mt.2.1.trans va) ?_
              refine k_ishl f68_181 ?_
              refine k_ior f68_182 ?_
              refine k_putI f68_183 hS.o43 rfl ?_
              refine k_iinc (w := nI (i + 1)) (L' := [.ref 43, .int (nI g), .ref pl, .int (nI (i + 1)), .int (nI (om i)), .int (0), .int (nI (w2 i))]) f68_186 rfl (nI_1 i) rfl rfl ?_
              refine k_goto f68_189 ?_
              rw [fd_s (r' := rc ||| 2 ^ oa i) g2 (fun y => y.elim (fun x => g0 x.1) (fun x => g3 ((n_2 l2).mpr x.2))) (by unfold fdS; rw [if_pos ⟨g1, (n_1 l2).mp (Classical.not_not.mp g4)⟩, if_neg (fun x => g0 x.1)])]
              exact ih (i + 1) (rc ||| 2 ^ oa i) _ _ _ _ (by omega) ⟨by rw [z_u_same, sh_1 (oa i) (by omega), nI_or], (or_lt hrc pa), fun p k hp => by rw [z_u_no _ _ hp]; exact hfr p k hp⟩
          · refine k_aload f68_130 rfl ?_
            refine k_getr (q := pl + 4) f68_131 hst.2.2.1.2.1 rfl (hst.2.2.1.2.2.1 3 (by omega)) ?_
            refine k_iload f68_134 rfl ?_
            refine k_ia (k := (om i)) (w := od i) f68_136 (hst.2.2.1.2.2.2.2 0 (by omega)) rfl (by omega) (by decide) (mt.1.trans vd) ?_
            exact k_iret f68_137 rfl ⟨by rw [(fd_h (od := od) (k := f) g2 (Or.inr ⟨g1, (n_2 l2).mp (Classical.not_not.mp g3)⟩))], I, rfl, by rw [(fd_h (od := od) (k := f) g2 (Or.inr ⟨g1, (n_2 l2).mp (Classical.not_not.mp g3)⟩))]; exact h9, hfr⟩
    · refine k_aload f68_68 rfl ?_
      refine k_getr (q := 44) f68_69 hS.o43 rfl hR.r43_7 ?_
      refine k_iload f68_72 rfl ?_
      refine k_ia (k := i) (w := nI (w1 i)) f68_73 hS.a44 rfl (by omega) (by decide) x1 ?_
      refine k_goto f68_74 ?_
      refine k_istore (L' := [.ref 43, .int (nI g), .ref pl, .int (nI i), .int (nI (om i)), .int (nI (w1 i)), u6]) f68_78 rfl rfl ?_
      refine k_aload f68_80 rfl ?_
      refine k_gI (w := nI rc) f68_81 hS.o43 rfl h9 ?_
      refine k_aload f68_84 rfl ?_
      refine k_getr (q := pl + 6) f68_85 hst.2.2.1.2.1 rfl (hst.2.2.1.2.2.1 5 (by omega)) ?_
      refine k_iload f68_88 rfl ?_
      refine k_ia (k := (om i)) (w := nI (ob i)) f68_90 (hst.2.2.1.2.2.2.2 2 (by omega)) rfl (by omega) (by decide) (mt.2.2.1.trans vb) ?_
      refine e_s (as := [.int (nI (ob i)), .int (nI rc)]) (rest := []) f68_91 rfl rfl rfl (s_has (b := rc) (p := (ob i)) (by omega) (by omega)) ?_
      refine k_beq f68_94 (fun g1 => ?_) (fun g1 => ?_)
      · refine k_iconst (v := 0) f68_106 rfl ?_
        refine k_istore (L' := [.ref 43, .int (nI g), .ref pl, .int (nI i), .int (nI (om i)), .int (nI (w1 i)), .int (0)]) f68_107 rfl rfl ?_
        refine k_iload f68_109 rfl ?_
        refine k_iload f68_110 rfl ?_
        refine e_s (as := [.int (nI (om i)), .int (nI g)]) (rest := []) f68_112 rfl rfl rfl (s_has (b := g) (p := (om i)) (by omega) (by omega)) ?_
        refine k_bne f68_115 (fun g2 => ?_) (fun g2 => ?_)
        · refine k_iinc (w := nI (i + 1)) (L' := [.ref 43, .int (nI g), .ref pl, .int (nI (i + 1)), .int (nI (om i)), .int (nI (w1 i)), .int (0)]) f68_186 rfl (nI_1 i) rfl rfl ?_
          refine k_goto f68_189 ?_
          rw [fd_g g2]
          exact ih (i + 1) rc I _ _ _ (by omega) ⟨h9, hrc, hfr⟩
        · refine k_iload f68_118 rfl ?_
          refine k_iconst (v := 2) f68_120 rfl ?_
          refine k_ic_eq f68_121 (fun g3 => ?_) (fun g3 => ?_)
          · refine k_aload f68_130 rfl ?_
            refine k_getr (q := pl + 4) f68_131 hst.2.2.1.2.1 rfl (hst.2.2.1.2.2.1 3 (by omega)) ?_
            refine k_iload f68_134 rfl ?_
            refine k_ia (k := (om i)) (w := od i) f68_136 (hst.2.2.1.2.2.2.2 0 (by omega)) rfl (by omega) (by decide) (mt.1.trans vd) ?_
            exact k_iret f68_137 rfl ⟨by rw [(fd_h (od := od) (k := f) g2 (Or.inl ⟨g0, (n_2 l1).mp g3⟩))], I, rfl, by rw [(fd_h (od := od) (k := f) g2 (Or.inl ⟨g0, (n_2 l1).mp g3⟩))]; exact h9, hfr⟩
          · refine k_iload f68_124 rfl ?_
            refine k_iconst (v := 2) f68_126 rfl ?_
            refine k_ic_ne f68_127 (fun _ => ?_) (fun h_ => absurd (by decide) h_)
            refine k_iload f68_138 rfl ?_
            refine k_iconst (v := 1) f68_140 rfl ?_
            refine k_ic_ne f68_141 (fun g4 => ?_) (fun g4 => ?_)
            · refine k_iload f68_162 rfl ?_
              refine k_iconst (v := 1) f68_164 rfl ?_
              refine k_ic_ne f68_165 (fun _ => ?_) (fun h_ => absurd (by decide) h_)
              refine k_iinc (w := nI (i + 1)) (L' := [.ref 43, .int (nI g), .ref pl, .int (nI (i + 1)), .int (nI (om i)), .int (nI (w1 i)), .int (0)]) f68_186 rfl (nI_1 i) rfl rfl ?_
              refine k_goto f68_189 ?_
              rw [fd_s (r' := rc) g2 (fun y => y.elim (fun x => g3 ((n_2 l1).mpr x.2)) (fun x => g1 x.1)) (by unfold fdS; rw [if_neg (fun x => g1 x.1), if_neg (fun x => g4 ((n_1 l1).mpr x.2))])]
              exact ih (i + 1) rc I _ _ _ (by omega) ⟨h9, hrc, hfr⟩
            · refine k_aload f68_144 rfl ?_
              refine k_dup f68_145 ?_
              refine k_gI (w := nI rc) f68_146 hS.o43 rfl h9 ?_
              refine k_iconst (v := 1) f68_149 rfl ?_
              refine k_aload f68_150 rfl ?_
              refine k_getr (q := pl + 6) f68_151 hst.2.2.1.2.1 rfl (hst.2.2.1.2.2.1 5 (by omega)) ?_
              refine k_iload f68_154 rfl ?_
              refine k_ia (k := (om i)) (w := nI (ob i)) f68_156 (hst.2.2.1.2.2.2.2 2 (by omega)) rfl (by omega) (by decide) (mt.2.2.1.trans vb) ?_
              refine k_ishl f68_157 ?_
              refine k_ior f68_158 ?_
              refine k_putI f68_159 hS.o43 rfl ?_
              refine k_iload f68_162 rfl ?_
              refine k_iconst (v := 1) f68_164 rfl ?_
              refine k_ic_ne f68_165 (fun _ => ?_) (fun h_ => absurd (by decide) h_)
              refine k_iinc (w := nI (i + 1)) (L' := [.ref 43, .int (nI g), .ref pl, .int (nI (i + 1)), .int (nI (om i)), .int (nI (w1 i)), .int (0)]) f68_186 rfl (nI_1 i) rfl rfl ?_
              refine k_goto f68_189 ?_
              rw [fd_s (r' := rc ||| 2 ^ ob i) g2 (fun y => y.elim (fun x => g3 ((n_2 l1).mpr x.2)) (fun x => g1 x.1)) (by unfold fdS; rw [if_neg (fun x => g1 x.1), if_pos ⟨g0, (n_1 l1).mp (Classical.not_not.mp g4)⟩])]
              exact ih (i + 1) (rc ||| 2 ^ ob i) _ _ _ _ (by omega) ⟨by rw [z_u_same, sh_1 (ob i) (by omega), nI_or], (or_lt hrc pb), fun p k hp => by rw [z_u_no _ _ hp]; exact hfr p k hp⟩
      · refine k_aload f68_97 rfl ?_
        refine k_getr (q := 45) f68_98 hS.o43 rfl hR.r43_8 ?_
        refine k_iload f68_101 rfl ?_
        refine k_ia (k := i) (w := nI (w2 i)) f68_102 hS.a45 rfl (by omega) (by decide) x2 ?_
        refine k_goto f68_103 ?_
        refine k_istore (L' := [.ref 43, .int (nI g), .ref pl, .int (nI i), .int (nI (om i)), .int (nI (w1 i)), .int (nI (w2 i))]) f68_107 rfl rfl ?_
        refine k_iload f68_109 rfl ?_
        refine k_iload f68_110 rfl ?_
        refine e_s (as := [.int (nI (om i)), .int (nI g)]) (rest := []) f68_112 rfl rfl rfl (s_has (b := g) (p := (om i)) (by omega) (by omega)) ?_
        refine k_bne f68_115 (fun g2 => ?_) (fun g2 => ?_)
        · refine k_iinc (w := nI (i + 1)) (L' := [.ref 43, .int (nI g), .ref pl, .int (nI (i + 1)), .int (nI (om i)), .int (nI (w1 i)), .int (nI (w2 i))]) f68_186 rfl (nI_1 i) rfl rfl ?_
          refine k_goto f68_189 ?_
          rw [fd_g g2]
          exact ih (i + 1) rc I _ _ _ (by omega) ⟨h9, hrc, hfr⟩
        · refine k_iload f68_118 rfl ?_
          refine k_iconst (v := 2) f68_120 rfl ?_
          refine k_ic_eq f68_121 (fun g3 => ?_) (fun g3 => ?_)
          · refine k_aload f68_130 rfl ?_
            refine k_getr (q := pl + 4) f68_131 hst.2.2.1.2.1 rfl (hst.2.2.1.2.2.1 3 (by omega)) ?_
            refine k_iload f68_134 rfl ?_
            refine k_ia (k := (om i)) (w := od i) f68_136 (hst.2.2.1.2.2.2.2 0 (by omega)) rfl (by omega) (by decide) (mt.1.trans vd) ?_
            exact k_iret f68_137 rfl ⟨by rw [(fd_h (od := od) (k := f) g2 (Or.inl ⟨g0, (n_2 l1).mp g3⟩))], I, rfl, by rw [(fd_h (od := od) (k := f) g2 (Or.inl ⟨g0, (n_2 l1).mp g3⟩))]; exact h9, hfr⟩
          · refine k_iload f68_124 rfl ?_
            refine k_iconst (v := 2) f68_126 rfl ?_
            refine k_ic_ne f68_127 (fun g4 => ?_) (fun g4 => ?_)
            · refine k_iload f68_138 rfl ?_
              refine k_iconst (v := 1) f68_140 rfl ?_
              refine k_ic_ne f68_141 (fun g5 => ?_) (fun g5 => ?_)
              · refine k_iload f68_162 rfl ?_
                refine k_iconst (v := 1) f68_164 rfl ?_
                refine k_ic_ne f68_165 (fun g6 => ?_) (fun g6 => ?_)
                · refine k_iinc (w := nI (i + 1)) (L' := [.ref 43, .int (nI g), .ref pl, .int (nI (i + 1)), .int (nI (om i)), .int (nI (w1 i)), .int (nI (w2 i))]) f68_186 rfl (nI_1 i) rfl rfl ?_
                  refine k_goto f68_189 ?_
                  rw [fd_s (r' := rc) g2 (fun y => y.elim (fun x => g3 ((n_2 l1).mpr x.2)) (fun x => g4 ((n_2 l2).mpr x.2))) (by unfold fdS; rw [if_neg (fun x => g6 ((n_1 l2).mpr x.2)), if_neg (fun x => g5 ((n_1 l1).mpr x.2))])]
                  exact ih (i + 1) rc I _ _ _ (by omega) ⟨h9, hrc, hfr⟩
                · refine k_aload f68_168 rfl ?_
                  refine k_dup f68_169 ?_
                  refine k_gI (w := nI rc) f68_170 hS.o43 rfl h9 ?_
                  refine k_iconst (v := 1) f68_173 rfl ?_
                  refine k_aload f68_174 rfl ?_
                  refine k_getr (q := pl + 5) f68_175 hst.2.2.1.2.1 rfl (hst.2.2.1.2.2.1 4 (by omega)) ?_
                  refine k_iload f68_178 rfl ?_
                  refine k_ia (k := (om i)) (w := nI (oa i)) f68_180 (hst.2.2.1.2.2.2.2 1 (by omega)) rfl (by omega) (by decide) (mt.2.1.trans va) ?_
                  refine k_ishl f68_181 ?_
                  refine k_ior f68_182 ?_
                  refine k_putI f68_183 hS.o43 rfl ?_
                  refine k_iinc (w := nI (i + 1)) (L' := [.ref 43, .int (nI g), .ref pl, .int (nI (i + 1)), .int (nI (om i)), .int (nI (w1 i)), .int (nI (w2 i))]) f68_186 rfl (nI_1 i) rfl rfl ?_
                  refine k_goto f68_189 ?_
                  rw [fd_s (r' := rc ||| 2 ^ oa i) g2 (fun y => y.elim (fun x => g3 ((n_2 l1).mpr x.2)) (fun x => g4 ((n_2 l2).mpr x.2))) (by unfold fdS; rw [if_pos ⟨g1, (n_1 l2).mp (Classical.not_not.mp g6)⟩, if_neg (fun x => g5 ((n_1 l1).mpr x.2))])]
                  exact ih (i + 1) (rc ||| 2 ^ oa i) _ _ _ _ (by omega) ⟨by rw [z_u_same, sh_1 (oa i) (by omega), nI_or], (or_lt hrc pa), fun p k hp => by rw [z_u_no _ _ hp]; exact hfr p k hp⟩
              · refine k_aload f68_144 rfl ?_
                refine k_dup f68_145 ?_
                refine k_gI (w := nI rc) f68_146 hS.o43 rfl h9 ?_
                refine k_iconst (v := 1) f68_149 rfl ?_
                refine k_aload f68_150 rfl ?_
                refine k_getr (q := pl + 6) f68_151 hst.2.2.1.2.1 rfl (hst.2.2.1.2.2.1 5 (by omega)) ?_
                refine k_iload f68_154 rfl ?_
                refine k_ia (k := (om i)) (w := nI (ob i)) f68_156 (hst.2.2.1.2.2.2.2 2 (by omega)) rfl (by omega) (by decide) (mt.2.2.1.trans vb) ?_
                refine k_ishl f68_157 ?_
                refine k_ior f68_158 ?_
                refine k_putI f68_159 hS.o43 rfl ?_
                refine k_iload f68_162 rfl ?_
                refine k_iconst (v := 1) f68_164 rfl ?_
                refine k_ic_ne f68_165 (fun g6 => ?_) (fun g6 => ?_)
                · refine k_iinc (w := nI (i + 1)) (L' := [.ref 43, .int (nI g), .ref pl, .int (nI (i + 1)), .int (nI (om i)), .int (nI (w1 i)), .int (nI (w2 i))]) f68_186 rfl (nI_1 i) rfl rfl ?_
                  refine k_goto f68_189 ?_
                  rw [fd_s (r' := rc ||| 2 ^ ob i) g2 (fun y => y.elim (fun x => g3 ((n_2 l1).mpr x.2)) (fun x => g4 ((n_2 l2).mpr x.2))) (by unfold fdS; rw [if_neg (fun x => g6 ((n_1 l2).mpr x.2)), if_pos ⟨g0, (n_1 l1).mp (Classical.not_not.mp g5)⟩])]
                  exact ih (i + 1) (rc ||| 2 ^ ob i) _ _ _ _ (by omega) ⟨by rw [z_u_same, sh_1 (ob i) (by omega), nI_or], (or_lt hrc pb), fun p k hp => by rw [z_u_no _ _ hp]; exact hfr p k hp⟩
                · refine k_aload f68_168 rfl ?_
                  refine k_dup f68_169 ?_
                  refine k_gI (w := (nI rc) ||| ((1) <<< ((nI (ob i)) &&& 31))) f68_170 hS.o43 rfl (z_u_same _ _ _ _) ?_
                  refine k_iconst (v := 1) f68_173 rfl ?_
                  refine k_aload f68_174 rfl ?_
                  refine k_getr (q := pl + 5) f68_175 hst.2.2.1.2.1 rfl (hst.2.2.1.2.2.1 4 (by omega)) ?_
                  refine k_iload f68_178 rfl ?_
                  refine k_ia (k := (om i)) (w := nI (oa i)) f68_180 (hst.2.2.1.2.2.2.2 1 (by omega)) rfl (by omega) (by decide) (Eq.trans (z_u_p _ _ _ _ (by omega)) (mt.2.1.trans va)) ?_
                  refine k_ishl f68_181 ?_
                  refine k_ior f68_182 ?_
                  refine k_putI f68_183 hS.o43 rfl ?_
                  refine k_iinc (w := nI (i + 1)) (L' := [.ref 43, .int (nI g), .ref pl, .int (nI (i + 1)), .int (nI (om i)), .int (nI (w1 i)), .int (nI (w2 i))]) f68_186 rfl (nI_1 i) rfl rfl ?_
                  refine k_goto f68_189 ?_
                  rw [fd_s (r' := (rc ||| 2 ^ ob i) ||| 2 ^ oa i) g2 (fun y => y.elim (fun x => g3 ((n_2 l1).mpr x.2)) (fun x => g4 ((n_2 l2).mpr x.2))) (by unfold fdS; rw [if_pos ⟨g1, (n_1 l2).mp (Classical.not_not.mp g6)⟩, if_pos ⟨g0, (n_1 l1).mp (Classical.not_not.mp g5)⟩])]
                  exact ih (i + 1) ((rc ||| 2 ^ ob i) ||| 2 ^ oa i) _ _ _ _ (by omega) ⟨by rw [z_u_same, sh_1 (ob i) (by omega), nI_or, sh_1 (oa i) (by omega), nI_or], (or_lt (or_lt hrc pb) pa), fun p k hp => by rw [z_u_no _ _ hp, z_u_no _ _ hp]; exact hfr p k hp⟩
            · refine k_aload f68_130 rfl ?_
              refine k_getr (q := pl + 4) f68_131 hst.2.2.1.2.1 rfl (hst.2.2.1.2.2.1 3 (by omega)) ?_
              refine k_iload f68_134 rfl ?_
              refine k_ia (k := (om i)) (w := od i) f68_136 (hst.2.2.1.2.2.2.2 0 (by omega)) rfl (by omega) (by decide) (mt.1.trans vd) ?_
              exact k_iret f68_137 rfl ⟨by rw [(fd_h (od := od) (k := f) g2 (Or.inr ⟨g1, (n_2 l2).mp (Classical.not_not.mp g4)⟩))], I, rfl, by rw [(fd_h (od := od) (k := f) g2 (Or.inr ⟨g1, (n_2 l2).mp (Classical.not_not.mp g4)⟩))]; exact h9, hfr⟩
