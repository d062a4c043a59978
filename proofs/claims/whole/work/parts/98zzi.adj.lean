/-! RINGS: who meets whom, on both sides. -/
def AJ (I : Nat → Nat → Int32) (q : Nat) (g : Nat → Nat) : Prop := ∀ p, p < 10 → I q p = nI (g p) ∧ g p < 1024
def ajH (a b : Nat) (g : Nat → Nat) : Nat → Nat := upN g a (g a ||| 2 ^ b)
def ajS (s : Nat → Int32) (i : Nat) (g : Nat → Nat) : Nat → Nat := ajH (mB s i) (mA s i) (ajH (mA s i) (mB s i) g)
theorem AJ.put {I : Nat → Nat → Int32} {q a b : Nat} {g : Nat → Nat} (h : AJ I q g) (ha : a < 10) (hb : b < 10) : AJ (z_u I q a (nI (g a ||| 2 ^ b))) q (ajH a b g) := by
  intro p hp
  unfold ajH upN
  by_cases e : p = a
  · subst e
    rw [z_u_same, if_pos rfl]
    exact ⟨rfl, or_lt (h p hp).2 (p_1024 hb)⟩
  · rw [z_u_k _ _ _ e, if_neg e]
    exact h p hp
theorem lp_adjC {x : Nat × (Nat → Int32)} {d : Nat} {J : Nat → Nat → Int64} {R : Nat → Nat → Option Nat} {G : zG} {I0 : Nat → Nat → Int32} {pl m : Nat} {s : Nat → Int32} {gf : Nat → Nat} {n p : Int32} {Q : Option Value → zM → Prop} (hR : Rs R) (hS : Sh G) (hst0 : StR I0 R G 17 pl s) (h8 : cl (s 1) ≤ 8) (hmw : MW s m) (hm24 : m ≤ 24) (hmd : MD s m) (hk : ∀ I' u4, AJ I' 50 gf → (∀ p k, p ≠ 50 → I' p k = I0 p k) → zOk x d 89 103 [.ref 0, .int n, .int p, .ref pl, u4] [] (I', J, R, G) Q) : ∀ (f i : Nat) (g : Nat → Nat) (I : Nat → Nat → Int32), i + f = m → (AJ I 50 g ∧ (∀ p k, p ≠ 50 → I p k = I0 p k) ∧ foL (ajS s) i f g = gf) → zOk x d 89 40 [.ref 0, .int (n), .int (p), .ref pl, .int (nI i)] [] (I, J, R, G) Q := by
  intro f
  induction f with
  | zero =>
    intro i g I hi hz
    obtain ⟨hp, hfr, hf⟩ := hz
    have hpl := hst0.2.2.1.1
    have hst : StR I R G 17 pl s := hst0.keep h8 Gk.rfl (fun p k _ hp => hfr p k (by omega)) (fun _ _ _ _ => rfl)
    refine k_iload f89_40 rfl ?_
    refine k_aload f89_42 rfl ?_
    refine k_gI (w := nI m) f89_43 hst.2.2.1.2.1 rfl (hst.2.2.2.1.2.2.2.1.trans hmw.1) ?_
    refine k_ic_ge f89_46 (fun _ => ?_) (fun h_ => absurd (nI_le (by omega) (by omega)) h_)
    have hf : g = gf := hf
    exact hk I _ (hf ▸ hp) hfr
  | succ f ih =>
    intro i g I hi hz
    obtain ⟨hp, hfr, hf⟩ := hz
    have hpl := hst0.2.2.1.1
    have hst : StR I R G 17 pl s := hst0.keep h8 Gk.rfl (fun p k _ hp => hfr p k (by omega)) (fun _ _ _ _ => rfl)
    have hin : i < m := by omega
    obtain ⟨rd, la, lb⟩ := hmd i hin
    have hmi := hmw.2.2 i hin
    have va : s (56 + 3 * i + 1) = nI (mA s i) := hmi.1.1
    have vb : s (56 + 3 * i + 2) = nI (mB s i) := hmi.2.1.1
    have mt := hst.2.2.2.1.2.2.2.2 i (by rw [hmw.1, cl_nI (by omega)]; exact hin)
    refine k_iload f89_40 rfl ?_
    refine k_aload f89_42 rfl ?_
    refine k_gI (w := nI m) f89_43 hst.2.2.1.2.1 rfl (hst.2.2.2.1.2.2.2.1.trans hmw.1) ?_
    refine k_ic_ge f89_46 (fun h_ => absurd h_ (nI_ge hin (by omega))) (fun _ => ?_)
    refine k_aload f89_49 rfl ?_
    refine k_getr (q := 50) f89_50 hS.o0 rfl hR.r0_14 ?_
    refine k_aload f89_53 rfl ?_
    refine k_getr (q := pl + 5) f89_54 hst.2.2.1.2.1 rfl (hst.2.2.1.2.2.1 4 (by omega)) ?_
    refine k_iload f89_57 rfl ?_
    refine k_ia (k := i) (w := nI (mA s i)) f89_59 (hst.2.2.1.2.2.2.2 1 (by omega)) rfl (by omega) (by decide) (mt.2.1.trans va) ?_
    refine k_dup2 f89_60 ?_
    refine k_ia (k := (mA s i)) (w := nI (g (mA s i))) f89_61 hS.a50 rfl (by omega) (by decide) (hp _ la).1 ?_
    refine k_iconst (v := 1) f89_62 rfl ?_
    refine k_aload f89_63 rfl ?_
    refine k_getr (q := pl + 6) f89_64 hst.2.2.1.2.1 rfl (hst.2.2.1.2.2.1 5 (by omega)) ?_
    refine k_iload f89_67 rfl ?_
    refine k_ia (k := i) (w := nI (mB s i)) f89_69 (hst.2.2.1.2.2.2.2 2 (by omega)) rfl (by omega) (by decide) (mt.2.2.1.trans vb) ?_
    refine k_ishl f89_70 ?_
    refine k_ior f89_71 ?_
    rw [sh_1 (mB s i) (by omega), nI_or]
    refine k_is (k := (mA s i)) f89_72 hS.a50 rfl (by omega) (by decide) ?_
    obtain ⟨I1, eI1⟩ : ∃ I1, I1 = z_u I 50 (mA s i) (nI (g (mA s i) ||| 2 ^ mB s i)) := ⟨_, rfl⟩
    rw [← eI1]
    have hp1 : AJ I1 50 (ajH (mA s i) (mB s i) g) := by rw [eI1]; exact hp.put la lb
    have f1 : ∀ p k, p ≠ 50 → I1 p k = I p k := fun p k h => by rw [eI1, z_u_p _ _ _ _ h]
    refine k_aload f89_73 rfl ?_
    refine k_getr (q := 50) f89_74 hS.o0 rfl hR.r0_14 ?_
    refine k_aload f89_77 rfl ?_
    refine k_getr (q := pl + 6) f89_78 hst.2.2.1.2.1 rfl (hst.2.2.1.2.2.1 5 (by omega)) ?_
    refine k_iload f89_81 rfl ?_
    refine k_ia (k := i) (w := nI (mB s i)) f89_83 (hst.2.2.1.2.2.2.2 2 (by omega)) rfl (by omega) (by decide) ((f1 _ _ (by omega)).trans (mt.2.2.1.trans vb)) ?_
    refine k_dup2 f89_84 ?_
    refine k_ia (k := (mB s i)) (w := nI ((ajH (mA s i) (mB s i) g) (mB s i))) f89_85 hS.a50 rfl (by omega) (by decide) (hp1 _ lb).1 ?_
    refine k_iconst (v := 1) f89_86 rfl ?_
    refine k_aload f89_87 rfl ?_
    refine k_getr (q := pl + 5) f89_88 hst.2.2.1.2.1 rfl (hst.2.2.1.2.2.1 4 (by omega)) ?_
    refine k_iload f89_91 rfl ?_
    refine k_ia (k := i) (w := nI (mA s i)) f89_93 (hst.2.2.1.2.2.2.2 1 (by omega)) rfl (by omega) (by decide) ((f1 _ _ (by omega)).trans (mt.2.1.trans va)) ?_
    refine k_ishl f89_94 ?_
    refine k_ior f89_95 ?_
    rw [sh_1 (mA s i) (by omega), nI_or]
    refine k_is (k := (mB s i)) f89_96 hS.a50 rfl (by omega) (by decide) ?_
    refine k_iinc (w := nI (i + 1)) (L' := [.ref 0, .int (n), .int (p), .ref pl, .int (nI (i + 1))]) f89_97 rfl (nI_1 i) rfl rfl ?_
    refine k_goto f89_100 ?_
    rw [foL_s] at hf
    exact ih (i + 1) (ajS s i g) _ (by omega) ⟨hp1.put lb la, fun p k h => (z_u_p _ _ _ _ h).trans ((f1 p k h).trans (hfr p k h)), hf⟩
theorem lp_adjM {x : Nat × (Nat → Int32)} {d : Nat} {J : Nat → Nat → Int64} {R : Nat → Nat → Option Nat} {G : zG} {I0 : Nat → Nat → Int32} {m : Nat} {s : Nat → Int32} {gf : Nat → Nat} {n p : Int32} {u4 u5 : Value} {Q : Option Value → zM → Prop} (hR : Rs R) (hS : Sh G) (hs0 : I0 62 = s) (hmw : MW s m) (hm24 : m ≤ 24) (hmd : MD s m) (hk : ∀ I' u3, AJ I' 67 gf → (∀ p k, p ≠ 67 → I' p k = I0 p k) → zOk x (d + 1) 194 107 [.ref 51, .int n, .int p, u3, u4, u5] [] (I', J, R, G) Q) : ∀ (f i : Nat) (g : Nat → Nat) (I : Nat → Nat → Int32), i + f = m → (AJ I 67 g ∧ (∀ p k, p ≠ 67 → I p k = I0 p k) ∧ foL (ajS s) i f g = gf) → zOk x (d + 1) 194 47 [.ref 51, .int (n), .int (p), .int (nI i), u4, u5] [] (I, J, R, G) Q := by
  intro f
  induction f with
  | zero =>
    intro i g I hi hz
    obtain ⟨hp, hfr, hf⟩ := hz
    have hs : I 62 = s := (funext fun k => hfr 62 k (by omega)).trans hs0
    refine k_iload f194_47 rfl ?_
    refine k_aload f194_48 rfl ?_
    refine k_getr (q := 62) f194_49 hS.o51 rfl hR.r51_25 ?_
    refine k_iconst (v := 2) f194_52 rfl ?_
    refine k_ia (k := 2) (w := nI m) f194_53 hS.a62 rfl (by decide) (by decide) ((congrFun hs 2).trans hmw.1) ?_
    refine k_ic_ge f194_54 (fun _ => ?_) (fun h_ => absurd (nI_le (by omega) (by omega)) h_)
    have hf : g = gf := hf
    exact hk I _ (hf ▸ hp) hfr
  | succ f ih =>
    intro i g I hi hz
    obtain ⟨hp, hfr, hf⟩ := hz
    have hs : I 62 = s := (funext fun k => hfr 62 k (by omega)).trans hs0
    have hin : i < m := by omega
    obtain ⟨rd, la, lb⟩ := hmd i hin
    have hmi := hmw.2.2 i hin
    have va : s (56 + 3 * i + 1) = nI (mA s i) := hmi.1.1
    have vb : s (56 + 3 * i + 2) = nI (mB s i) := hmi.2.1.1
    refine k_iload f194_47 rfl ?_
    refine k_aload f194_48 rfl ?_
    refine k_getr (q := 62) f194_49 hS.o51 rfl hR.r51_25 ?_
    refine k_iconst (v := 2) f194_52 rfl ?_
    refine k_ia (k := 2) (w := nI m) f194_53 hS.a62 rfl (by decide) (by decide) ((congrFun hs 2).trans hmw.1) ?_
    refine k_ic_ge f194_54 (fun h_ => absurd h_ (nI_ge hin (by omega))) (fun _ => ?_)
    refine k_aload f194_57 rfl ?_
    refine k_getr (q := 67) f194_58 hS.o51 rfl hR.r51_35 ?_
    refine k_aload f194_61 rfl ?_
    refine k_iload f194_62 rfl ?_
    refine k_iconst (v := 1) f194_63 rfl ?_
    refine e_v (as := [.int (1), .int (nI i)]) (rest := [.ref 67]) f194_64 hS.o51 rfl rfl rfl (s_meetOf (c := i) (k := 1) (v := nI (mA s i)) hR hS (by omega) ((congrFun hs _).trans va)) ?_
    refine k_dup2 f194_67 ?_
    refine k_ia (k := (mA s i)) (w := nI (g (mA s i))) f194_68 hS.a67 rfl (by omega) (by decide) (hp _ la).1 ?_
    refine k_iconst (v := 1) f194_69 rfl ?_
    refine k_aload f194_70 rfl ?_
    refine k_iload f194_71 rfl ?_
    refine k_iconst (v := 2) f194_72 rfl ?_
    refine e_v (as := [.int (2), .int (nI i)]) (rest := [.int (1), .int (nI (g (mA s i))), .int (nI (mA s i)), .ref 67]) f194_73 hS.o51 rfl rfl rfl (s_meetOf (c := i) (k := 2) (v := nI (mB s i)) hR hS (by omega) ((congrFun hs _).trans vb)) ?_
    refine k_ishl f194_76 ?_
    refine k_ior f194_77 ?_
    rw [sh_1 (mB s i) (by omega), nI_or]
    refine k_is (k := (mA s i)) f194_78 hS.a67 rfl (by omega) (by decide) ?_
    obtain ⟨I1, eI1⟩ : ∃ I1, I1 = z_u I 67 (mA s i) (nI (g (mA s i) ||| 2 ^ mB s i)) := ⟨_, rfl⟩
    rw [← eI1]
    have hp1 : AJ I1 67 (ajH (mA s i) (mB s i) g) := by rw [eI1]; exact hp.put la lb
    have f1 : ∀ p k, p ≠ 67 → I1 p k = I p k := fun p k h => by rw [eI1, z_u_p _ _ _ _ h]
    have hs1 : I1 62 = s := (funext fun k => f1 62 k (by omega)).trans hs
    refine k_aload f194_79 rfl ?_
    refine k_getr (q := 67) f194_80 hS.o51 rfl hR.r51_35 ?_
    refine k_aload f194_83 rfl ?_
    refine k_iload f194_84 rfl ?_
    refine k_iconst (v := 2) f194_85 rfl ?_
    refine e_v (as := [.int (2), .int (nI i)]) (rest := [.ref 67]) f194_86 hS.o51 rfl rfl rfl (s_meetOf (c := i) (k := 2) (v := nI (mB s i)) hR hS (by omega) ((congrFun hs1 _).trans vb)) ?_
    refine k_dup2 f194_89 ?_
    refine k_ia (k := (mB s i)) (w := nI ((ajH (mA s i) (mB s i) g) (mB s i))) f194_90 hS.a67 rfl (by omega) (by decide) (hp1 _ lb).1 ?_
    refine k_iconst (v := 1) f194_91 rfl ?_
    refine k_aload f194_92 rfl ?_
    refine k_iload f194_93 rfl ?_
    refine k_iconst (v := 1) f194_94 rfl ?_
    refine e_v (as := [.int (1), .int (nI i)]) (rest := [.int (1), .int (nI ((ajH (mA s i) (mB s i) g) (mB s i))), .int (nI (mB s i)), .ref 67]) f194_95 hS.o51 rfl rfl rfl (s_meetOf (c := i) (k := 1) (v := nI (mA s i)) hR hS (by omega) ((congrFun hs1 _).trans va)) ?_
    refine k_ishl f194_98 ?_
    refine k_ior f194_99 ?_
    rw [sh_1 (mA s i) (by omega), nI_or]
    refine k_is (k := (mB s i)) f194_100 hS.a67 rfl (by omega) (by decide) ?_
    refine k_iinc (w := nI (i + 1)) (L' := [.ref 51, .int (n), .int (p), .int (nI (i + 1)), u4, u5]) f194_101 rfl (nI_1 i) rfl rfl ?_
    refine k_goto f194_104 ?_
    rw [foL_s] at hf
    exact ih (i + 1) (ajS s i g) _ (by omega) ⟨hp1.put lb la, fun p k h => (z_u_p _ _ _ _ h).trans ((f1 p k h).trans (hfr p k h)), hf⟩
