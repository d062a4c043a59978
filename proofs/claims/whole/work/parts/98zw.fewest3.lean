/-! THE FEWEST payments, in the class. -/
def fwG (w b pd : Nat) (z : (Nat → Nat) × Nat) : (Nat → Nat) × Nat := if w = 1 then (upN z.1 b (mnN (z.1 b) (pd + 1)), z.2) else if w = 2 then (z.1, mnN z.2 (pd + 1)) else z
theorem fwS_G (w1 w2 a b : Nat) (z : (Nat → Nat) × Nat) : fwS w1 w2 a b z = fwG w2 a (z.1 b) (fwG w1 b (z.1 a) z) := rfl
theorem mn_nI {x b : Nat} (hx : x < 2 ^ 31) (hb : b < 2 ^ 31) : (if nI b < nI x then nI b else nI x) = nI (mnN x b) := by
  unfold mnN
  by_cases q : b < x
  · rw [if_pos (nI_lt q hx), if_pos q]
  · rw [if_neg (nI_nlt (by omega) hb), if_neg q]
theorem mn_le {x b : Nat} : mnN x b ≤ x := by
  unfold mnN
  split <;> omega
def PMz (I : Nat → Nat → Int32) (y : (Nat → Nat) × Nat) : Prop := (∀ p, p < 10 → I 46 p = nI (y.1 p) ∧ y.1 p ≤ 1000) ∧ y.2 ≤ 1000
theorem PMz.put {I : Nat → Nat → Int32} {y : (Nat → Nat) × Nat} {b w : Nat} (h : PMz I y) (hw : w ≤ 1000) : PMz (z_u I 46 b (nI w)) (upN y.1 b w, y.2) := by
  refine ⟨fun p hp => ?_, h.2⟩
  show _ = nI (upN y.1 b w p) ∧ upN y.1 b w p ≤ 1000
  unfold upN
  by_cases e : p = b
  · subst e; rw [z_u_same, if_pos rfl]; exact ⟨rfl, hw⟩
  · rw [z_u_k _ _ _ e, if_neg e]; exact h.1 p hp
theorem foL_fw {w1 w2 : Nat → Nat} {s : Nat → Int32} {m : Nat} : ∀ (k i : Nat) (y : (Nat → Nat) × Nat), i + k = m → foL (fun i => fwS (w1 (mO s m i)) (w2 (mO s m i)) (mA s (mO s m i)) (mB s (mO s m i))) i k y = fwL w1 w2 s ((ordL (fun i => s (56 + 3 * i)) m).reverse.drop i) y := by
  intro k
  have hl : (ordL (fun i => s (56 + 3 * i)) m).reverse.length = m := by rw [List.length_reverse, ordL_len]
  induction k with
  | zero =>
    intro i y hi
    rw [List.drop_of_length_le (by omega)]
    rfl
  | succ k ih =>
    intro i y hi
    have hil : i < (ordL (fun i => s (56 + 3 * i)) m).reverse.length := by omega
    have e : (ordL (fun i => s (56 + 3 * i)) m).reverse[i] = mO s m i := by
      rw [List.getElem_reverse]
      unfold mO ordK
      have h3 : m - 1 - i < (ordL (fun i => s (56 + 3 * i)) m).length := by rw [ordL_len]; omega
      rw [List.getD_eq_getElem?_getD, List.getElem?_eq_getElem h3]
      simp [ordL_len]
    rw [List.drop_eq_getElem_cons hil, e, foL_s, fwL, ih (i + 1) _ (by omega)]
theorem lp_fw {x : Nat × (Nat → Int32)} {d : Nat} {J : Nat → Nat → Int64} {R : Nat → Nat → Option Nat} {G : zG} {I0 : Nat → Nat → Int32} {pl m : Nat} {s : Nat → Int32} {w1 w2 oa ob om : Nat → Nat} (hR : Rs R) (hS : Sh G) (hst0 : StR I0 R G 17 pl s) (h8 : cl (s 1) ≤ 8) (hs2 : s 2 = nI m) (hm24 : m ≤ 24) (hom : ∀ k, k < m → I0 (pl + 7) k = nI (om k) ∧ om k < m) (hoa : ∀ k, k < m → s (56 + 3 * om k + 1) = nI (oa k) ∧ oa k < 10) (hob : ∀ k, k < m → s (56 + 3 * om k + 2) = nI (ob k) ∧ ob k < 10) (hw1 : ∀ k, k < m → I0 44 k = nI (w1 k) ∧ w1 k ≤ 2) (hw2 : ∀ k, k < m → I0 45 k = nI (w2 k) ∧ w2 k ≤ 2) : ∀ (f i : Nat) (y : (Nat → Nat) × Nat) (I : Nat → Nat → Int32) (u4 u5 u6 u7 : Value), i + f = m → (PMz I y ∧ (∀ p k, p ≠ 46 → I p k = I0 p k)) → zOk x d 69 46 [.ref 43, .int (nI y.2), .ref pl, .int (nI i), u4, u5, u6, u7] [] (I, J, R, G) (fun v mm => v = some (.int (if (foL (fun i => fwS (w1 i) (w2 i) (oa i) (ob i)) i f y).2 < 1000 then nI (foL (fun i => fwS (w1 i) (w2 i) (oa i) (ob i)) i f y).2 else -2)) ∧ ∃ I', mm = (I', J, R, G) ∧ (∀ p k, p ≠ 46 → I' p k = I0 p k)) := by
  intro f
  induction f with
  | zero =>
    intro i y I u4 u5 u6 u7 hi hz
    obtain ⟨hp, hfr⟩ := hz
    have hpl := hst0.2.2.1.1
    have hst : StR I R G 17 pl s := hst0.keep h8 Gk.rfl (fun p k _ hp => hfr p k (by omega)) (fun _ _ _ _ => rfl)
    have yb := hp.2
    refine k_iload f69_46 rfl ?_
    refine k_aload f69_47 rfl ?_
    refine k_gI (w := nI m) f69_48 hst.2.2.1.2.1 rfl (hst.2.2.2.1.2.2.2.1.trans hs2) ?_
    refine k_ic_ge f69_51 (fun _ => ?_) (fun h_ => absurd (nI_le (by omega) (by omega)) h_)
    refine k_iload f69_206 rfl ?_
    refine k_iconst (v := 1000) f69_207 rfl ?_
    refine k_ic_ge f69_210 (fun g0 => ?_) (fun g0 => ?_)
    · refine k_iconst (v := (-2)) f69_217 rfl ?_
      exact k_iret f69_219 rfl ⟨by rw [show (foL (fun i => fwS (w1 i) (w2 i) (oa i) (ob i)) i 0 y) = y from rfl, if_neg (fun q => absurd ((nI_leI (a := 1000) (by omega) (by omega)).mp g0) (by omega))], I, rfl, hfr⟩
    · refine k_iload f69_213 rfl ?_
      refine k_goto f69_214 ?_
      exact k_iret f69_219 rfl ⟨by rw [show (foL (fun i => fwS (w1 i) (w2 i) (oa i) (ob i)) i 0 y) = y from rfl, if_pos (Nat.lt_of_not_le fun q => g0 ((nI_leI (a := 1000) (by omega) (by omega)).mpr q))], I, rfl, hfr⟩
  | succ f ih =>
    intro i y I u4 u5 u6 u7 hi hz
    obtain ⟨hp, hfr⟩ := hz
    have hpl := hst0.2.2.1.1
    have hst : StR I R G 17 pl s := hst0.keep h8 Gk.rfl (fun p k _ hp => hfr p k (by omega)) (fun _ _ _ _ => rfl)
    have yb := hp.2
    have hin : i < m := by omega
    obtain ⟨hmk, hj⟩ := hom i hin
    have mk : I (pl + 7) i = nI (om i) := (hfr _ _ (by omega)).trans hmk
    have c2 : cl (s 2) = m := by rw [hs2, cl_nI (by omega)]
    have mt := hst.2.2.2.1.2.2.2.2 (om i) (by omega)
    obtain ⟨va, la⟩ := hoa i hin
    obtain ⟨vb, lb⟩ := hob i hin
    have x1 : I 44 i = nI (w1 i) := (hfr _ _ (by omega)).trans (hw1 i hin).1
    have x2 : I 45 i = nI (w2 i) := (hfr _ _ (by omega)).trans (hw2 i hin).1
    have l1 := (hw1 i hin).2
    have l2 := (hw2 i hin).2
    have pa := (hp.1 _ la).2
    have pb := (hp.1 _ lb).2
    refine k_iload f69_46 rfl ?_
    refine k_aload f69_47 rfl ?_
    refine k_gI (w := nI m) f69_48 hst.2.2.1.2.1 rfl (hst.2.2.2.1.2.2.2.1.trans hs2) ?_
    refine k_ic_ge f69_51 (fun h_ => absurd h_ (nI_ge hin (by omega))) (fun _ => ?_)
    refine k_aload f69_54 rfl ?_
    refine k_getr (q := pl + 5) f69_55 hst.2.2.1.2.1 rfl (hst.2.2.1.2.2.1 4 (by omega)) ?_
    refine k_aload f69_58 rfl ?_
    refine k_getr (q := pl + 7) f69_59 hst.2.2.1.2.1 rfl (hst.2.2.1.2.2.1 6 (by omega)) ?_
    refine k_iload f69_62 rfl ?_
    refine k_ia (k := i) (w := nI (om i)) f69_63 (hst.2.2.1.2.2.2.2 3 (by omega)) rfl (by omega) (by decide) mk ?_
    refine k_ia (k := (om i)) (w := nI (oa i)) f69_64 (hst.2.2.1.2.2.2.2 1 (by omega)) rfl (by omega) (by decide) (mt.2.1.trans va) ?_
    refine k_istore (L' := [.ref 43, .int (nI y.2), .ref pl, .int (nI i), .int (nI (oa i)), u5, u6, u7]) f69_65 rfl rfl ?_
    refine k_aload f69_67 rfl ?_
    refine k_getr (q := pl + 6) f69_68 hst.2.2.1.2.1 rfl (hst.2.2.1.2.2.1 5 (by omega)) ?_
    refine k_aload f69_71 rfl ?_
    refine k_getr (q := pl + 7) f69_72 hst.2.2.1.2.1 rfl (hst.2.2.1.2.2.1 6 (by omega)) ?_
    refine k_iload f69_75 rfl ?_
    refine k_ia (k := i) (w := nI (om i)) f69_76 (hst.2.2.1.2.2.2.2 3 (by omega)) rfl (by omega) (by decide) mk ?_
    refine k_ia (k := (om i)) (w := nI (ob i)) f69_77 (hst.2.2.1.2.2.2.2 2 (by omega)) rfl (by omega) (by decide) (mt.2.2.1.trans vb) ?_
    refine k_istore (L' := [.ref 43, .int (nI y.2), .ref pl, .int (nI i), .int (nI (oa i)), .int (nI (ob i)), u6, u7]) f69_78 rfl rfl ?_
    refine k_aload f69_80 rfl ?_
    refine k_getr (q := 46) f69_81 hS.o43 rfl hR.r43_10 ?_
    refine k_iload f69_84 rfl ?_
    refine k_ia (k := (oa i)) (w := nI (y.1 (oa i))) f69_86 hS.a46 rfl (by omega) (by decide) (hp.1 _ la).1 ?_
    refine k_iconst (v := 1) f69_87 rfl ?_
    refine k_iadd f69_88 ?_
    rw [nI_1 (y.1 (oa i))]
    refine k_istore (L' := [.ref 43, .int (nI y.2), .ref pl, .int (nI i), .int (nI (oa i)), .int (nI (ob i)), .int (nI (y.1 (oa i) + 1)), u7]) f69_89 rfl rfl ?_
    refine k_aload f69_91 rfl ?_
    refine k_getr (q := 46) f69_92 hS.o43 rfl hR.r43_10 ?_
    refine k_iload f69_95 rfl ?_
    refine k_ia (k := (ob i)) (w := nI (y.1 (ob i))) f69_97 hS.a46 rfl (by omega) (by decide) (hp.1 _ lb).1 ?_
    refine k_iconst (v := 1) f69_98 rfl ?_
    refine k_iadd f69_99 ?_
    rw [nI_1 (y.1 (ob i))]
    refine k_istore (L' := [.ref 43, .int (nI y.2), .ref pl, .int (nI i), .int (nI (oa i)), .int (nI (ob i)), .int (nI (y.1 (oa i) + 1)), .int (nI (y.1 (ob i) + 1))]) f69_100 rfl rfl ?_
    refine k_aload f69_102 rfl ?_
    refine k_getr (q := 44) f69_103 hS.o43 rfl hR.r43_7 ?_
    refine k_iload f69_106 rfl ?_
    refine k_ia (k := i) (w := nI (w1 i)) f69_107 hS.a44 rfl (by omega) (by decide) x1 ?_
    refine k_iconst (v := 1) f69_108 rfl ?_
    refine k_ic_ne f69_109 (fun g0 => ?_) (fun g0 => ?_)
    · refine k_aload f69_134 rfl ?_
      refine k_getr (q := 44) f69_135 hS.o43 rfl hR.r43_7 ?_
      refine k_iload f69_138 rfl ?_
      refine k_ia (k := i) (w := nI (w1 i)) f69_139 hS.a44 rfl (by omega) (by decide) x1 ?_
      refine k_iconst (v := 2) f69_140 rfl ?_
      refine k_ic_ne f69_141 (fun g1 => ?_) (fun g1 => ?_)
      · obtain ⟨y1, ey1⟩ : ∃ y1, y1 = fwG (w1 i) (ob i) (y.1 (oa i)) y := ⟨_, rfl⟩
        obtain ⟨I1, eI1⟩ : ∃ I1, I1 = I := ⟨_, rfl⟩
        rw [← eI1]
        have hp1 : PMz I1 y1 := by
          rw [ey1, eI1, fwG, if_neg (fun q => g0 ((n_1 l1).mpr q)), if_neg (fun q => g1 ((n_2 l1).mpr q))]
          exact hp
        have f1 : ∀ p k, p ≠ 46 → I1 p k = I p k := fun p k h => by rw [eI1]
        have eb : nI y.2 = nI y1.2 := by rw [ey1, fwG, if_neg (fun q => g0 ((n_1 l1).mpr q)), if_neg (fun q => g1 ((n_2 l1).mpr q))]
        rw [eb]
        have y1b := hp1.2
        have pa1 := (hp1.1 _ la).2
        refine k_aload f69_151 rfl ?_
        refine k_getr (q := 45) f69_152 hS.o43 rfl hR.r43_8 ?_
        refine k_iload f69_155 rfl ?_
        refine k_ia (k := i) (w := nI (w2 i)) f69_156 hS.a45 rfl (by omega) (by decide) ((f1 _ _ (by omega)).trans x2) ?_
        refine k_iconst (v := 1) f69_157 rfl ?_
        refine k_ic_ne f69_158 (fun g2 => ?_) (fun g2 => ?_)
        · refine k_aload f69_183 rfl ?_
          refine k_getr (q := 45) f69_184 hS.o43 rfl hR.r43_8 ?_
          refine k_iload f69_187 rfl ?_
          refine k_ia (k := i) (w := nI (w2 i)) f69_188 hS.a45 rfl (by omega) (by decide) ((f1 _ _ (by omega)).trans x2) ?_
          refine k_iconst (v := 2) f69_189 rfl ?_
          refine k_ic_ne f69_190 (fun g3 => ?_) (fun g3 => ?_)
          · refine k_iinc (w := nI (i + 1)) (L' := [.ref 43, .int (nI y1.2), .ref pl, .int (nI (i + 1)), .int (nI (oa i)), .int (nI (ob i)), .int (nI (y.1 (oa i) + 1)), .int (nI (y.1 (ob i) + 1))]) f69_200 rfl (nI_1 i) rfl rfl ?_
            refine k_goto f69_203 ?_
            rw [foL_s, fwS_G, ← ey1]
            obtain ⟨y2, ey2⟩ : ∃ y2, y2 = fwG (w2 i) (oa i) (y.1 (ob i)) y1 := ⟨_, rfl⟩
            rw [← ey2]
            have eb2 : nI y1.2 = nI y2.2 := by rw [ey2, fwG, if_neg (fun q => g2 ((n_1 l2).mpr q)), if_neg (fun q => g3 ((n_2 l2).mpr q))]
            rw [eb2]
            refine ih (i + 1) y2 _ _ _ _ _ (by omega) ⟨?_, fun p k h => by rw [f1 p k h]; exact hfr p k h⟩
            rw [ey2, fwG, if_neg (fun q => g2 ((n_1 l2).mpr q)), if_neg (fun q => g3 ((n_2 l2).mpr q))]
            exact hp1
          · refine k_iload f69_193 rfl ?_
            refine k_iload f69_194 rfl ?_
            refine k_min f69_196 rfl ?_
            rw [mn_nI (x := y1.2) (b := y.1 (ob i) + 1) (by omega) (by omega)]
            refine k_istore (L' := [.ref 43, .int (nI (mnN (y1.2) (y.1 (ob i) + 1))), .ref pl, .int (nI i), .int (nI (oa i)), .int (nI (ob i)), .int (nI (y.1 (oa i) + 1)), .int (nI (y.1 (ob i) + 1))]) f69_199 rfl rfl ?_
            refine k_iinc (w := nI (i + 1)) (L' := [.ref 43, .int (nI (mnN (y1.2) (y.1 (ob i) + 1))), .ref pl, .int (nI (i + 1)), .int (nI (oa i)), .int (nI (ob i)), .int (nI (y.1 (oa i) + 1)), .int (nI (y.1 (ob i) + 1))]) f69_200 rfl (nI_1 i) rfl rfl ?_
            refine k_goto f69_203 ?_
            rw [foL_s, fwS_G, ← ey1]
            obtain ⟨y2, ey2⟩ : ∃ y2, y2 = fwG (w2 i) (oa i) (y.1 (ob i)) y1 := ⟨_, rfl⟩
            rw [← ey2]
            have eb2 : nI (mnN (y1.2) (y.1 (ob i) + 1)) = nI y2.2 := by rw [ey2, fwG, if_neg (fun q => g2 ((n_1 l2).mpr q)), if_pos ((n_2 l2).mp (Classical.not_not.mp g3))]
            rw [eb2]
            refine ih (i + 1) y2 _ _ _ _ _ (by omega) ⟨?_, fun p k h => by rw [f1 p k h]; exact hfr p k h⟩
            rw [ey2, fwG, if_neg (fun q => g2 ((n_1 l2).mpr q)), if_pos ((n_2 l2).mp (Classical.not_not.mp g3))]
            exact ⟨hp1.1, Nat.le_trans mn_le y1b⟩
        · refine k_aload f69_161 rfl ?_
          refine k_getr (q := 46) f69_162 hS.o43 rfl hR.r43_10 ?_
          refine k_iload f69_165 rfl ?_
          refine k_aload f69_167 rfl ?_
          refine k_getr (q := 46) f69_168 hS.o43 rfl hR.r43_10 ?_
          refine k_iload f69_171 rfl ?_
          refine k_ia (k := (oa i)) (w := nI (y1.1 (oa i))) f69_173 hS.a46 rfl (by omega) (by decide) (hp1.1 _ la).1 ?_
          refine k_iload f69_174 rfl ?_
          refine k_min f69_176 rfl ?_
          rw [mn_nI (x := y1.1 (oa i)) (b := y.1 (ob i) + 1) (by omega) (by omega)]
          refine k_is (k := (oa i)) f69_179 hS.a46 rfl (by omega) (by decide) ?_
          refine k_goto f69_180 ?_
          refine k_iinc (w := nI (i + 1)) (L' := [.ref 43, .int (nI y1.2), .ref pl, .int (nI (i + 1)), .int (nI (oa i)), .int (nI (ob i)), .int (nI (y.1 (oa i) + 1)), .int (nI (y.1 (ob i) + 1))]) f69_200 rfl (nI_1 i) rfl rfl ?_
          refine k_goto f69_203 ?_
          rw [foL_s, fwS_G, ← ey1]
          obtain ⟨y2, ey2⟩ : ∃ y2, y2 = fwG (w2 i) (oa i) (y.1 (ob i)) y1 := ⟨_, rfl⟩
          rw [← ey2]
          have eb2 : nI y1.2 = nI y2.2 := by rw [ey2, fwG, if_pos ((n_1 l2).mp (Classical.not_not.mp g2))]
          rw [eb2]
          refine ih (i + 1) y2 _ _ _ _ _ (by omega) ⟨?_, fun p k h => by rw [z_u_p _ _ _ _ h, f1 p k h]; exact hfr p k h⟩
          rw [ey2, fwG, if_pos ((n_1 l2).mp (Classical.not_not.mp g2))]
          exact hp1.put (Nat.le_trans mn_le pa1)
      · refine k_iload f69_144 rfl ?_
        refine k_iload f69_145 rfl ?_
        refine k_min f69_147 rfl ?_
        rw [mn_nI (x := y.2) (b := y.1 (oa i) + 1) (by omega) (by omega)]
        refine k_istore (L' := [.ref 43, .int (nI (mnN (y.2) (y.1 (oa i) + 1))), .ref pl, .int (nI i), .int (nI (oa i)), .int (nI (ob i)), .int (nI (y.1 (oa i) + 1)), .int (nI (y.1 (ob i) + 1))]) f69_150 rfl rfl ?_
        obtain ⟨y1, ey1⟩ : ∃ y1, y1 = fwG (w1 i) (ob i) (y.1 (oa i)) y := ⟨_, rfl⟩
        obtain ⟨I1, eI1⟩ : ∃ I1, I1 = I := ⟨_, rfl⟩
        rw [← eI1]
        have hp1 : PMz I1 y1 := by
          rw [ey1, eI1, fwG, if_neg (fun q => g0 ((n_1 l1).mpr q)), if_pos ((n_2 l1).mp (Classical.not_not.mp g1))]
          exact ⟨hp.1, Nat.le_trans mn_le yb⟩
        have f1 : ∀ p k, p ≠ 46 → I1 p k = I p k := fun p k h => by rw [eI1]
        have eb : nI (mnN (y.2) (y.1 (oa i) + 1)) = nI y1.2 := by rw [ey1, fwG, if_neg (fun q => g0 ((n_1 l1).mpr q)), if_pos ((n_2 l1).mp (Classical.not_not.mp g1))]
        rw [eb]
        have y1b := hp1.2
        have pa1 := (hp1.1 _ la).2
        refine k_aload f69_151 rfl ?_
        refine k_getr (q := 45) f69_152 hS.o43 rfl hR.r43_8 ?_
        refine k_iload f69_155 rfl ?_
        refine k_ia (k := i) (w := nI (w2 i)) f69_156 hS.a45 rfl (by omega) (by decide) ((f1 _ _ (by omega)).trans x2) ?_
        refine k_iconst (v := 1) f69_157 rfl ?_
        refine k_ic_ne f69_158 (fun g2 => ?_) (fun g2 => ?_)
        · refine k_aload f69_183 rfl ?_
          refine k_getr (q := 45) f69_184 hS.o43 rfl hR.r43_8 ?_
          refine k_iload f69_187 rfl ?_
          refine k_ia (k := i) (w := nI (w2 i)) f69_188 hS.a45 rfl (by omega) (by decide) ((f1 _ _ (by omega)).trans x2) ?_
          refine k_iconst (v := 2) f69_189 rfl ?_
          refine k_ic_ne f69_190 (fun g3 => ?_) (fun g3 => ?_)
          · refine k_iinc (w := nI (i + 1)) (L' := [.ref 43, .int (nI y1.2), .ref pl, .int (nI (i + 1)), .int (nI (oa i)), .int (nI (ob i)), .int (nI (y.1 (oa i) + 1)), .int (nI (y.1 (ob i) + 1))]) f69_200 rfl (nI_1 i) rfl rfl ?_
            refine k_goto f69_203 ?_
            rw [foL_s, fwS_G, ← ey1]
            obtain ⟨y2, ey2⟩ : ∃ y2, y2 = fwG (w2 i) (oa i) (y.1 (ob i)) y1 := ⟨_, rfl⟩
            rw [← ey2]
            have eb2 : nI y1.2 = nI y2.2 := by rw [ey2, fwG, if_neg (fun q => g2 ((n_1 l2).mpr q)), if_neg (fun q => g3 ((n_2 l2).mpr q))]
            rw [eb2]
            refine ih (i + 1) y2 _ _ _ _ _ (by omega) ⟨?_, fun p k h => by rw [f1 p k h]; exact hfr p k h⟩
            rw [ey2, fwG, if_neg (fun q => g2 ((n_1 l2).mpr q)), if_neg (fun q => g3 ((n_2 l2).mpr q))]
            exact hp1
          · refine k_iload f69_193 rfl ?_
            refine k_iload f69_194 rfl ?_
            refine k_min f69_196 rfl ?_
            rw [mn_nI (x := y1.2) (b := y.1 (ob i) + 1) (by omega) (by omega)]
            refine k_istore (L' := [.ref 43, .int (nI (mnN (y1.2) (y.1 (ob i) + 1))), .ref pl, .int (nI i), .int (nI (oa i)), .int (nI (ob i)), .int (nI (y.1 (oa i) + 1)), .int (nI (y.1 (ob i) + 1))]) f69_199 rfl rfl ?_
            refine k_iinc (w := nI (i + 1)) (L' := [.ref 43, .int (nI (mnN (y1.2) (y.1 (ob i) + 1))), .ref pl, .int (nI (i + 1)), .int (nI (oa i)), .int (nI (ob i)), .int (nI (y.1 (oa i) + 1)), .int (nI (y.1 (ob i) + 1))]) f69_200 rfl (nI_1 i) rfl rfl ?_
            refine k_goto f69_203 ?_
            rw [foL_s, fwS_G, ← ey1]
            obtain ⟨y2, ey2⟩ : ∃ y2, y2 = fwG (w2 i) (oa i) (y.1 (ob i)) y1 := ⟨_, rfl⟩
            rw [← ey2]
            have eb2 : nI (mnN (y1.2) (y.1 (ob i) + 1)) = nI y2.2 := by rw [ey2, fwG, if_neg (fun q => g2 ((n_1 l2).mpr q)), if_pos ((n_2 l2).mp (Classical.not_not.mp g3))]
            rw [eb2]
            refine ih (i + 1) y2 _ _ _ _ _ (by omega) ⟨?_, fun p k h => by rw [f1 p k h]; exact hfr p k h⟩
            rw [ey2, fwG, if_neg (fun q => g2 ((n_1 l2).mpr q)), if_pos ((n_2 l2).mp (Classical.not_not.mp g3))]
            exact ⟨hp1.1, Nat.le_trans mn_le y1b⟩
        · refine k_aload f69_161 rfl ?_
          refine k_getr (q := 46) f69_162 hS.o43 rfl hR.r43_10 ?_
          refine k_iload f69_165 rfl ?_
          refine k_aload f69_167 rfl ?_
          refine k_getr (q := 46) f69_168 hS.o43 rfl hR.r43_10 ?_
          refine k_iload f69_171 rfl ?_
          refine k_ia (k := (oa i)) (w := nI (y1.1 (oa i))) f69_173 hS.a46 rfl (by omega) (by decide) (hp1.1 _ la).1 ?_
          refine k_iload f69_174 rfl ?_
          refine k_min f69_176 rfl ?_
          rw [mn_nI (x := y1.1 (oa i)) (b := y.1 (ob i) + 1) (by omega) (by omega)]
          refine k_is (k := (oa i)) f69_179 hS.a46 rfl (by omega) (by decide) ?_
          refine k_goto f69_180 ?_
          refine k_iinc (w := nI (i + 1)) (L' := [.ref 43, .int (nI y1.2), .ref pl, .int (nI (i + 1)), .int (nI (oa i)), .int (nI (ob i)), .int (nI (y.1 (oa i) + 1)), .int (nI (y.1 (ob i) + 1))]) f69_200 rfl (nI_1 i) rfl rfl ?_
          refine k_goto f69_203 ?_
          rw [foL_s, fwS_G, ← ey1]
          obtain ⟨y2, ey2⟩ : ∃ y2, y2 = fwG (w2 i) (oa i) (y.1 (ob i)) y1 := ⟨_, rfl⟩
          rw [← ey2]
          have eb2 : nI y1.2 = nI y2.2 := by rw [ey2, fwG, if_pos ((n_1 l2).mp (Classical.not_not.mp g2))]
          rw [eb2]
          refine ih (i + 1) y2 _ _ _ _ _ (by omega) ⟨?_, fun p k h => by rw [z_u_p _ _ _ _ h, f1 p k h]; exact hfr p k h⟩
          rw [ey2, fwG, if_pos ((n_1 l2).mp (Classical.not_not.mp g2))]
          exact hp1.put (Nat.le_trans mn_le pa1)
    · refine k_aload f69_112 rfl ?_
      refine k_getr (q := 46) f69_113 hS.o43 rfl hR.r43_10 ?_
      refine k_iload f69_116 rfl ?_
      refine k_aload f69_118 rfl ?_
      refine k_getr (q := 46) f69_119 hS.o43 rfl hR.r43_10 ?_
      refine k_iload f69_122 rfl ?_
      refine k_ia (k := (ob i)) (w := nI (y.1 (ob i))) f69_124 hS.a46 rfl (by omega) (by decide) (hp.1 _ lb).1 ?_
      refine k_iload f69_125 rfl ?_
      refine k_min f69_127 rfl ?_
      rw [mn_nI (x := y.1 (ob i)) (b := y.1 (oa i) + 1) (by omega) (by omega)]
      refine k_is (k := (ob i)) f69_130 hS.a46 rfl (by omega) (by decide) ?_
      refine k_goto f69_131 ?_
      obtain ⟨y1, ey1⟩ : ∃ y1, y1 = fwG (w1 i) (ob i) (y.1 (oa i)) y := ⟨_, rfl⟩
      obtain ⟨I1, eI1⟩ : ∃ I1, I1 = z_u I 46 (ob i) (nI (mnN (y.1 (ob i)) (y.1 (oa i) + 1))) := ⟨_, rfl⟩
      rw [← eI1]
      have hp1 : PMz I1 y1 := by
        rw [ey1, eI1, fwG, if_pos ((n_1 l1).mp (Classical.not_not.mp g0))]
        exact hp.put (Nat.le_trans mn_le pb)
      have f1 : ∀ p k, p ≠ 46 → I1 p k = I p k := fun p k h => by rw [eI1, z_u_p _ _ _ _ h]
      have eb : nI y.2 = nI y1.2 := by rw [ey1, fwG, if_pos ((n_1 l1).mp (Classical.not_not.mp g0))]
      rw [eb]
      have y1b := hp1.2
      have pa1 := (hp1.1 _ la).2
      refine k_aload f69_151 rfl ?_
      refine k_getr (q := 45) f69_152 hS.o43 rfl hR.r43_8 ?_
      refine k_iload f69_155 rfl ?_
      refine k_ia (k := i) (w := nI (w2 i)) f69_156 hS.a45 rfl (by omega) (by decide) ((f1 _ _ (by omega)).trans x2) ?_
      refine k_iconst (v := 1) f69_157 rfl ?_
      refine k_ic_ne f69_158 (fun g1 => ?_) (fun g1 => ?_)
      · refine k_aload f69_183 rfl ?_
        refine k_getr (q := 45) f69_184 hS.o43 rfl hR.r43_8 ?_
        refine k_iload f69_187 rfl ?_
        refine k_ia (k := i) (w := nI (w2 i)) f69_188 hS.a45 rfl (by omega) (by decide) ((f1 _ _ (by omega)).trans x2) ?_
        refine k_iconst (v := 2) f69_189 rfl ?_
        refine k_ic_ne f69_190 (fun g2 => ?_) (fun g2 => ?_)
        · refine k_iinc (w := nI (i + 1)) (L' := [.ref 43, .int (nI y1.2), .ref pl, .int (nI (i + 1)), .int (nI (oa i)), .int (nI (ob i)), .int (nI (y.1 (oa i) + 1)), .int (nI (y.1 (ob i) + 1))]) f69_200 rfl (nI_1 i) rfl rfl ?_
          refine k_goto f69_203 ?_
          rw [foL_s, fwS_G, ← ey1]
          obtain ⟨y2, ey2⟩ : ∃ y2, y2 = fwG (w2 i) (oa i) (y.1 (ob i)) y1 := ⟨_, rfl⟩
          rw [← ey2]
          have eb2 : nI y1.2 = nI y2.2 := by rw [ey2, fwG, if_neg (fun q => g1 ((n_1 l2).mpr q)), if_neg (fun q => g2 ((n_2 l2).mpr q))]
          rw [eb2]
          refine ih (i + 1) y2 _ _ _ _ _ (by omega) ⟨?_, fun p k h => by rw [f1 p k h]; exact hfr p k h⟩
          rw [ey2, fwG, if_neg (fun q => g1 ((n_1 l2).mpr q)), if_neg (fun q => g2 ((n_2 l2).mpr q))]
          exact hp1
        · refine k_iload f69_193 rfl ?_
          refine k_iload f69_194 rfl ?_
          refine k_min f69_196 rfl ?_
          rw [mn_nI (x := y1.2) (b := y.1 (ob i) + 1) (by omega) (by omega)]
          refine k_istore (L' := [.ref 43, .int (nI (mnN (y1.2) (y.1 (ob i) + 1))), .ref pl, .int (nI i), .int (nI (oa i)), .int (nI (ob i)), .int (nI (y.1 (oa i) + 1)), .int (nI (y.1 (ob i) + 1))]) f69_199 rfl rfl ?_
          refine k_iinc (w := nI (i + 1)) (L' := [.ref 43, .int (nI (mnN (y1.2) (y.1 (ob i) + 1))), .ref pl, .int (nI (i + 1)), .int (nI (oa i)), .int (nI (ob i)), .int (nI (y.1 (oa i) + 1)), .int (nI (y.1 (ob i) + 1))]) f69_200 rfl (nI_1 i) rfl rfl ?_
          refine k_goto f69_203 ?_
          rw [foL_s, fwS_G, ← ey1]
          obtain ⟨y2, ey2⟩ : ∃ y2, y2 = fwG (w2 i) (oa i) (y.1 (ob i)) y1 := ⟨_, rfl⟩
          rw [← ey2]
          have eb2 : nI (mnN (y1.2) (y.1 (ob i) + 1)) = nI y2.2 := by rw [ey2, fwG, if_neg (fun q => g1 ((n_1 l2).mpr q)), if_pos ((n_2 l2).mp (Classical.not_not.mp g2))]
          rw [eb2]
          refine ih (i + 1) y2 _ _ _ _ _ (by omega) ⟨?_, fun p k h => by rw [f1 p k h]; exact hfr p k h⟩
          rw [ey2, fwG, if_neg (fun q => g1 ((n_1 l2).mpr q)), if_pos ((n_2 l2).mp (Classical.not_not.mp g2))]
          exact ⟨hp1.1, Nat.le_trans mn_le y1b⟩
      · refine k_aload f69_161 rfl ?_
        refine k_getr (q := 46) f69_162 hS.o43 rfl hR.r43_10 ?_
        refine k_iload f69_165 rfl ?_
        refine k_aload f69_167 rfl ?_
        refine k_getr (q := 46) f69_168 hS.o43 rfl hR.r43_10 ?_
        refine k_iload f69_171 rfl ?_
        refine k_ia (k := (oa i)) (w := nI (y1.1 (oa i))) f69_173 hS.a46 rfl (by omega) (by decide) (hp1.1 _ la).1 ?_
        refine k_iload f69_174 rfl ?_
        refine k_min f69_176 rfl ?_
        rw [mn_nI (x := y1.1 (oa i)) (b := y.1 (ob i) + 1) (by omega) (by omega)]
        refine k_is (k := (oa i)) f69_179 hS.a46 rfl (by omega) (by decide) ?_
        refine k_goto f69_180 ?_
        refine k_iinc (w := nI (i + 1)) (L' := [.ref 43, .int (nI y1.2), .ref pl, .int (nI (i + 1)), .int (nI (oa i)), .int (nI (ob i)), .int (nI (y.1 (oa i) + 1)), .int (nI (y.1 (ob i) + 1))]) f69_200 rfl (nI_1 i) rfl rfl ?_
        refine k_goto f69_203 ?_
        rw [foL_s, fwS_G, ← ey1]
        obtain ⟨y2, ey2⟩ : ∃ y2, y2 = fwG (w2 i) (oa i) (y.1 (ob i)) y1 := ⟨_, rfl⟩
        rw [← ey2]
        have eb2 : nI y1.2 = nI y2.2 := by rw [ey2, fwG, if_pos ((n_1 l2).mp (Classical.not_not.mp g1))]
        rw [eb2]
        refine ih (i + 1) y2 _ _ _ _ _ (by omega) ⟨?_, fun p k h => by rw [z_u_p _ _ _ _ h, f1 p k h]; exact hfr p k h⟩
        rw [ey2, fwG, if_pos ((n_1 l2).mp (Classical.not_not.mp g1))]
        exact hp1.put (Nat.le_trans mn_le pa1)
