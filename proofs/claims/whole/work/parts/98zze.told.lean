/-! MET: told, in the reference. -/
def tlB (b : Nat → Nat → Int32) (s : Nat → Int32) (md k c : Nat) : Bool := if s (131 + c) = -1 then true else sk b s md c (decide (s (131 + c) = 1)) k
/-- from the i-th coin on, f of them -/
def ptB (b : Nat → Nat → Int32) (s : Nat → Int32) (md k : Nat) : Nat → Nat → Bool
  | 0, _ => true
  | f + 1, i => tlB b s md k i && ptB b s md k f (i + 1)
theorem pt_1 {b : Nat → Nat → Int32} {s : Nat → Int32} {md k f i : Nat} (h : tlB b s md k i = true) : ptB b s md k (f + 1) i = ptB b s md k f (i + 1) := by
  rw [ptB, h, Bool.true_and]
theorem pt_0 {b : Nat → Nat → Int32} {s : Nat → Int32} {md k f i : Nat} (h : tlB b s md k i = false) : ¬ ptB b s md k (f + 1) i = true := by
  rw [ptB, h, Bool.false_and]
  decide
theorem lp_told {x : Nat × (Nat → Int32)} {d : Nat} {G : zG} {I0 : Nat → Nat → Int32} {R : Nat → Nat → Option Nat} {s : Nat → Int32} {md k : Nat} (hR : Rs R) (hS : Sh G) (hs0 : I0 62 = s) (hO : SOk s (cl (I0 0 4))) (hA0 : RuA I0 R G) (hm : md < 9) (hk : k < 2 ^ md) : ∀ (f i : Nat) (I : Nat → Nat → Int32) (J : Nat → Nat → Int64), i + f = cl (s 1) → RF2 I0 I → zOk x (d + 7) 198 2 [.ref 51, .int (nI ((2 ^ md - 1) ^^^ k)), .int (nI i)] [] (I, J, R, G) (fun v mm => v = some (.int (bI (ptB I0 s md k f i = true))) ∧ ∃ I' J', mm = (I', J', R, G) ∧ RF2 I0 I') := by
  intro f
  induction f with
  | zero =>
    intro i I J hi hz
    have hn9 := hO.2.1.2
    have hs : I 62 = s := (funext fun k => hz 62 k (by omega) (by omega)).trans hs0
    have kr := hz.kr
    have hA := hA0.kr kr
    have hO1 : SOk s (cl (I 0 4)) := by rw [kr 0 4 (by omega)]; exact hO
    refine k_iload f198_2 rfl ?_
    refine k_aload f198_3 rfl ?_
    refine k_getr (q := 62) f198_4 hS.o51 rfl hR.r51_25 ?_
    refine k_iconst (v := 1) f198_7 rfl ?_
    refine k_ia (k := 1) (w := nI (cl (s 1))) f198_8 hS.a62 rfl (by decide) (by decide) ((congrFun hs 1).trans hO.2.1.1) ?_
    refine k_ic_ge f198_9 (fun _ => ?_) (fun h_ => absurd (nI_le (by omega) (by omega)) h_)
    refine k_iconst (v := 1) f198_76 rfl ?_
    exact k_iret f198_77 (by decide) ⟨bI_t rfl, I, J, rfl, hz⟩
  | succ f ih =>
    intro i I J hi hz
    have hn9 := hO.2.1.2
    have hs : I 62 = s := (funext fun k => hz 62 k (by omega) (by omega)).trans hs0
    have kr := hz.kr
    have hA := hA0.kr kr
    have hO1 : SOk s (cl (I 0 4)) := by rw [kr 0 4 (by omega)]; exact hO
    have hin : i < cl (s 1) := by omega
    have he := sek (b := I0) (g := (2 ^ md - 1) ^^^ k) hO hin
    have hn := FDk_n (b := I0) (c := i) (g := (2 ^ md - 1) ^^^ k) hO
    have hto := (hO.2.2.2.2.2.2.2.1 i hin).2.2.2.2.2.1
    by_cases he1 : s (131 + i) = -1
    · have hge : ¬ 0 ≤ s (131 + i) := by rw [he1]; decide
      refine k_iload f198_2 rfl ?_
      refine k_aload f198_3 rfl ?_
      refine k_getr (q := 62) f198_4 hS.o51 rfl hR.r51_25 ?_
      refine k_iconst (v := 1) f198_7 rfl ?_
      refine k_ia (k := 1) (w := nI (cl (s 1))) f198_8 hS.a62 rfl (by decide) (by decide) ((congrFun hs 1).trans hO.2.1.1) ?_
      refine k_ic_ge f198_9 (fun h_ => absurd h_ (nI_ge hin (by omega))) (fun _ => ?_)
      refine k_aload f198_12 rfl ?_
      refine k_getr (q := 62) f198_13 hS.o51 rfl hR.r51_25 ?_
      refine k_iconst (v := 131) f198_16 rfl ?_
      refine k_iload f198_19 rfl ?_
      refine k_iadd f198_20 ?_
      refine k_ia (k := 131 + i) (w := s (131 + i)) f198_21 hS.a62 (ix_t i) (by omega) (by decide) (congrFun hs _) ?_
      refine k_if_ge f198_22 (fun h_ => absurd h_ (hge)) (fun _ => ?_)
      refine k_goto f198_25 ?_
      refine k_iinc (w := nI (i + 1)) (L' := [.ref 51, .int (nI ((2 ^ md - 1) ^^^ k)), .int (nI (i + 1))]) f198_70 rfl (nI_1 i) rfl rfl ?_
      refine k_goto f198_73 ?_
      rw [pt_1 (by simp [tlB, he1])]
      exact ih (i + 1) I J (by omega) hz
    · have hne := he1
      have hge : 0 ≤ s (131 + i) := rg_0le (hto.resolve_left he1) (by omega)
      by_cases h1 : s (131 + i) = 1
      · by_cases hd : (FDk I0 s i ((2 ^ md - 1) ^^^ k)).1 = -2
        · have hlt : (FDk I0 s i ((2 ^ md - 1) ^^^ k)).1 < 0 := by rw [hd]; decide
          refine k_iload f198_2 rfl ?_
          refine k_aload f198_3 rfl ?_
          refine k_getr (q := 62) f198_4 hS.o51 rfl hR.r51_25 ?_
          refine k_iconst (v := 1) f198_7 rfl ?_
          refine k_ia (k := 1) (w := nI (cl (s 1))) f198_8 hS.a62 rfl (by decide) (by decide) ((congrFun hs 1).trans hO.2.1.1) ?_
          refine k_ic_ge f198_9 (fun h_ => absurd h_ (nI_ge hin (by omega))) (fun _ => ?_)
          refine k_aload f198_12 rfl ?_
          refine k_getr (q := 62) f198_13 hS.o51 rfl hR.r51_25 ?_
          refine k_iconst (v := 131) f198_16 rfl ?_
          refine k_iload f198_19 rfl ?_
          refine k_iadd f198_20 ?_
          refine k_ia (k := 131 + i) (w := s (131 + i)) f198_21 hS.a62 (ix_t i) (by omega) (by decide) (congrFun hs _) ?_
          refine k_if_ge f198_22 (fun _ => ?_) (fun h_ => absurd (hge) h_)
          refine k_aload f198_28 rfl ?_
          refine k_iload f198_29 rfl ?_
          refine k_iload f198_30 rfl ?_
          refine k_callv (as := [.int (nI ((2 ^ md - 1) ^^^ k)), .int (nI i)]) (rest := []) f198_31 hS.o51 rfl rfl rfl rfl (q_sFor (c := i) (g := (2 ^ md - 1) ^^^ k) (s := s) hR hS hs hO1 hA hin (gn_lt hm hk)) ?_
          rintro _ _ ⟨rfl, I1, J1, rfl, hz1, hf1⟩
          rw [SEk_kr kr] at hz1
          have hz2 : RF2 I0 I1 := hz.trans hf1
          have hs1 : I1 62 = s := (funext fun k => hz2 62 k (by omega) (by omega)).trans hs0
          refine k_aload f198_34 rfl ?_
          refine k_gI (w := (FDk I0 s i ((2 ^ md - 1) ^^^ k)).1) f198_35 hS.o51 rfl (hz1.2.2.2.1.trans he.1) ?_
          refine k_if_lt f198_38 (fun _ => ?_) (fun h_ => absurd (hlt) h_)
          refine k_iconst (v := 0) f198_45 rfl ?_
          refine k_aload f198_46 rfl ?_
          refine k_getr (q := 62) f198_47 hS.o51 rfl hR.r51_25 ?_
          refine k_iconst (v := 131) f198_50 rfl ?_
          refine k_iload f198_53 rfl ?_
          refine k_iadd f198_54 ?_
          refine k_ia (k := 131 + i) (w := s (131 + i)) f198_55 hS.a62 (ix_t i) (by omega) (by decide) (congrFun hs1 _) ?_
          refine k_iconst (v := 1) f198_56 rfl ?_
          refine k_ic_ne f198_57 (fun h_ => absurd (h1) h_) (fun _ => ?_)
          refine k_iconst (v := 1) f198_60 rfl ?_
          refine k_goto f198_61 ?_
          refine k_ic_eq f198_65 (fun h_ => absurd h_ (by decide)) (fun _ => ?_)
          refine k_iconst (v := 0) f198_68 rfl ?_
          exact k_iret f198_69 (by decide) ⟨bI_f (pt_0 (by simp [tlB, sk, hne, h1, hd])), I1, J1, rfl, hz2⟩
        · have hlt : ¬ (FDk I0 s i ((2 ^ md - 1) ^^^ k)).1 < 0 := fun q => hd (hn.mp (Int32.not_le.mpr q))
          refine k_iload f198_2 rfl ?_
          refine k_aload f198_3 rfl ?_
          refine k_getr (q := 62) f198_4 hS.o51 rfl hR.r51_25 ?_
          refine k_iconst (v := 1) f198_7 rfl ?_
          refine k_ia (k := 1) (w := nI (cl (s 1))) f198_8 hS.a62 rfl (by decide) (by decide) ((congrFun hs 1).trans hO.2.1.1) ?_
          refine k_ic_ge f198_9 (fun h_ => absurd h_ (nI_ge hin (by omega))) (fun _ => ?_)
          refine k_aload f198_12 rfl ?_
          refine k_getr (q := 62) f198_13 hS.o51 rfl hR.r51_25 ?_
          refine k_iconst (v := 131) f198_16 rfl ?_
          refine k_iload f198_19 rfl ?_
          refine k_iadd f198_20 ?_
          refine k_ia (k := 131 + i) (w := s (131 + i)) f198_21 hS.a62 (ix_t i) (by omega) (by decide) (congrFun hs _) ?_
          refine k_if_ge f198_22 (fun _ => ?_) (fun h_ => absurd (hge) h_)
          refine k_aload f198_28 rfl ?_
          refine k_iload f198_29 rfl ?_
          refine k_iload f198_30 rfl ?_
          refine k_callv (as := [.int (nI ((2 ^ md - 1) ^^^ k)), .int (nI i)]) (rest := []) f198_31 hS.o51 rfl rfl rfl rfl (q_sFor (c := i) (g := (2 ^ md - 1) ^^^ k) (s := s) hR hS hs hO1 hA hin (gn_lt hm hk)) ?_
          rintro _ _ ⟨rfl, I1, J1, rfl, hz1, hf1⟩
          rw [SEk_kr kr] at hz1
          have hz2 : RF2 I0 I1 := hz.trans hf1
          have hs1 : I1 62 = s := (funext fun k => hz2 62 k (by omega) (by omega)).trans hs0
          refine k_aload f198_34 rfl ?_
          refine k_gI (w := (FDk I0 s i ((2 ^ md - 1) ^^^ k)).1) f198_35 hS.o51 rfl (hz1.2.2.2.1.trans he.1) ?_
          refine k_if_lt f198_38 (fun h_ => absurd h_ (hlt)) (fun _ => ?_)
          refine k_iconst (v := 1) f198_41 rfl ?_
          refine k_goto f198_42 ?_
          refine k_aload f198_46 rfl ?_
          refine k_getr (q := 62) f198_47 hS.o51 rfl hR.r51_25 ?_
          refine k_iconst (v := 131) f198_50 rfl ?_
          refine k_iload f198_53 rfl ?_
          refine k_iadd f198_54 ?_
          refine k_ia (k := 131 + i) (w := s (131 + i)) f198_55 hS.a62 (ix_t i) (by omega) (by decide) (congrFun hs1 _) ?_
          refine k_iconst (v := 1) f198_56 rfl ?_
          refine k_ic_ne f198_57 (fun h_ => absurd (h1) h_) (fun _ => ?_)
          refine k_iconst (v := 1) f198_60 rfl ?_
          refine k_goto f198_61 ?_
          refine k_ic_eq f198_65 (fun _ => ?_) (fun h_ => absurd (by decide) h_)
          refine k_iinc (w := nI (i + 1)) (L' := [.ref 51, .int (nI ((2 ^ md - 1) ^^^ k)), .int (nI (i + 1))]) f198_70 rfl (nI_1 i) rfl rfl ?_
          refine k_goto f198_73 ?_
          rw [pt_1 (by simp [tlB, sk, hne, h1, hd])]
          exact ih (i + 1) I1 J1 (by omega) hz2
      · by_cases hd : (FDk I0 s i ((2 ^ md - 1) ^^^ k)).1 = -2
        · have hlt : (FDk I0 s i ((2 ^ md - 1) ^^^ k)).1 < 0 := by rw [hd]; decide
          refine k_iload f198_2 rfl ?_
          refine k_aload f198_3 rfl ?_
          refine k_getr (q := 62) f198_4 hS.o51 rfl hR.r51_25 ?_
          refine k_iconst (v := 1) f198_7 rfl ?_
          refine k_ia (k := 1) (w := nI (cl (s 1))) f198_8 hS.a62 rfl (by decide) (by decide) ((congrFun hs 1).trans hO.2.1.1) ?_
          refine k_ic_ge f198_9 (fun h_ => absurd h_ (nI_ge hin (by omega))) (fun _ => ?_)
          refine k_aload f198_12 rfl ?_
          refine k_getr (q := 62) f198_13 hS.o51 rfl hR.r51_25 ?_
          refine k_iconst (v := 131) f198_16 rfl ?_
          refine k_iload f198_19 rfl ?_
          refine k_iadd f198_20 ?_
          refine k_ia (k := 131 + i) (w := s (131 + i)) f198_21 hS.a62 (ix_t i) (by omega) (by decide) (congrFun hs _) ?_
          refine k_if_ge f198_22 (fun _ => ?_) (fun h_ => absurd (hge) h_)
          refine k_aload f198_28 rfl ?_
          refine k_iload f198_29 rfl ?_
          refine k_iload f198_30 rfl ?_
          refine k_callv (as := [.int (nI ((2 ^ md - 1) ^^^ k)), .int (nI i)]) (rest := []) f198_31 hS.o51 rfl rfl rfl rfl (q_sFor (c := i) (g := (2 ^ md - 1) ^^^ k) (s := s) hR hS hs hO1 hA hin (gn_lt hm hk)) ?_
          rintro _ _ ⟨rfl, I1, J1, rfl, hz1, hf1⟩
          rw [SEk_kr kr] at hz1
          have hz2 : RF2 I0 I1 := hz.trans hf1
          have hs1 : I1 62 = s := (funext fun k => hz2 62 k (by omega) (by omega)).trans hs0
          refine k_aload f198_34 rfl ?_
          refine k_gI (w := (FDk I0 s i ((2 ^ md - 1) ^^^ k)).1) f198_35 hS.o51 rfl (hz1.2.2.2.1.trans he.1) ?_
          refine k_if_lt f198_38 (fun _ => ?_) (fun h_ => absurd (hlt) h_)
          refine k_iconst (v := 0) f198_45 rfl ?_
          refine k_aload f198_46 rfl ?_
          refine k_getr (q := 62) f198_47 hS.o51 rfl hR.r51_25 ?_
          refine k_iconst (v := 131) f198_50 rfl ?_
          refine k_iload f198_53 rfl ?_
          refine k_iadd f198_54 ?_
          refine k_ia (k := 131 + i) (w := s (131 + i)) f198_55 hS.a62 (ix_t i) (by omega) (by decide) (congrFun hs1 _) ?_
          refine k_iconst (v := 1) f198_56 rfl ?_
          refine k_ic_ne f198_57 (fun _ => ?_) (fun h_ => absurd (h1) h_)
          refine k_iconst (v := 0) f198_64 rfl ?_
          refine k_ic_eq f198_65 (fun _ => ?_) (fun h_ => absurd (by decide) h_)
          refine k_iinc (w := nI (i + 1)) (L' := [.ref 51, .int (nI ((2 ^ md - 1) ^^^ k)), .int (nI (i + 1))]) f198_70 rfl (nI_1 i) rfl rfl ?_
          refine k_goto f198_73 ?_
          rw [pt_1 (by simp [tlB, sk, hne, h1, hd])]
          exact ih (i + 1) I1 J1 (by omega) hz2
        · have hlt : ¬ (FDk I0 s i ((2 ^ md - 1) ^^^ k)).1 < 0 := fun q => hd (hn.mp (Int32.not_le.mpr q))
          refine k_iload f198_2 rfl ?_
          refine k_aload f198_3 rfl ?_
          refine k_getr (q := 62) f198_4 hS.o51 rfl hR.r51_25 ?_
          refine k_iconst (v := 1) f198_7 rfl ?_
          refine k_ia (k := 1) (w := nI (cl (s 1))) f198_8 hS.a62 rfl (by decide) (by decide) ((congrFun hs 1).trans hO.2.1.1) ?_
          refine k_ic_ge f198_9 (fun h_ => absurd h_ (nI_ge hin (by omega))) (fun _ => ?_)
          refine k_aload f198_12 rfl ?_
          refine k_getr (q := 62) f198_13 hS.o51 rfl hR.r51_25 ?_
          refine k_iconst (v := 131) f198_16 rfl ?_
          refine k_iload f198_19 rfl ?_
          refine k_iadd f198_20 ?_
          refine k_ia (k := 131 + i) (w := s (131 + i)) f198_21 hS.a62 (ix_t i) (by omega) (by decide) (congrFun hs _) ?_
          refine k_if_ge f198_22 (fun _ => ?_) (fun h_ => absurd (hge) h_)
          refine k_aload f198_28 rfl ?_
          refine k_iload f198_29 rfl ?_
          refine k_iload f198_30 rfl ?_
          refine k_callv (as := [.int (nI ((2 ^ md - 1) ^^^ k)), .int (nI i)]) (rest := []) f198_31 hS.o51 rfl rfl rfl rfl (q_sFor (c := i) (g := (2 ^ md - 1) ^^^ k) (s := s) hR hS hs hO1 hA hin (gn_lt hm hk)) ?_
          rintro _ _ ⟨rfl, I1, J1, rfl, hz1, hf1⟩
          rw [SEk_kr kr] at hz1
          have hz2 : RF2 I0 I1 := hz.trans hf1
          have hs1 : I1 62 = s := (funext fun k => hz2 62 k (by omega) (by omega)).trans hs0
          refine k_aload f198_34 rfl ?_
          refine k_gI (w := (FDk I0 s i ((2 ^ md - 1) ^^^ k)).1) f198_35 hS.o51 rfl (hz1.2.2.2.1.trans he.1) ?_
          refine k_if_lt f198_38 (fun h_ => absurd h_ (hlt)) (fun _ => ?_)
          refine k_iconst (v := 1) f198_41 rfl ?_
          refine k_goto f198_42 ?_
          refine k_aload f198_46 rfl ?_
          refine k_getr (q := 62) f198_47 hS.o51 rfl hR.r51_25 ?_
          refine k_iconst (v := 131) f198_50 rfl ?_
          refine k_iload f198_53 rfl ?_
          refine k_iadd f198_54 ?_
          refine k_ia (k := 131 + i) (w := s (131 + i)) f198_55 hS.a62 (ix_t i) (by omega) (by decide) (congrFun hs1 _) ?_
          refine k_iconst (v := 1) f198_56 rfl ?_
          refine k_ic_ne f198_57 (fun _ => ?_) (fun h_ => absurd (h1) h_)
          refine k_iconst (v := 0) f198_64 rfl ?_
          refine k_ic_eq f198_65 (fun h_ => absurd h_ (by decide)) (fun _ => ?_)
          refine k_iconst (v := 0) f198_68 rfl ?_
          exact k_iret f198_69 (by decide) ⟨bI_f (pt_0 (by simp [tlB, sk, hne, h1, hd])), I1, J1, rfl, hz2⟩
theorem q_told {x : Nat × (Nat → Int32)} {d : Nat} {I : Nat → Nat → Int32} {J : Nat → Nat → Int64} {R : Nat → Nat → Option Nat} {G : zG} {s : Nat → Int32} {md k : Nat} (hR : Rs R) (hS : Sh G) (hs : I 62 = s) (hO : SOk s (cl (I 0 4))) (hA : RuA I R G) (hm : md < 9) (hk : k < 2 ^ md) : zOk x (d + 7) 198 0 [.ref 51, .int (nI ((2 ^ md - 1) ^^^ k)), zU] [] (I, J, R, G) (fun v mm => v = some (.int (bI (ptB I s md k (cl (s 1)) 0 = true))) ∧ ∃ I' J', mm = (I', J', R, G) ∧ RF2 I I') := by
  refine k_iconst (v := 0) f198_0 rfl ?_
  refine k_istore (L' := [.ref 51, .int (nI ((2 ^ md - 1) ^^^ k)), .int (0)]) f198_1 rfl rfl ?_
  exact lp_told hR hS hs hO hA hm hk (cl (s 1)) 0 I J (by omega) (fun _ _ _ _ => rfl)
