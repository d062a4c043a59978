/-! A DAY, in the reference. -/
theorem gv_keep {so : (Nat → Int64) → Nat → Bool} {n k p c : Nat} (hc : ¬ k.testBit c = true) : ∀ (f i : Nat) (z : (Nat → Int32) × Int32), (foL (gvC so n k p) i f z).1 (8 + 6 * c + 1) = z.1 (8 + 6 * c + 1) := by
  intro f
  induction f with
  | zero => intro i z; rfl
  | succ f ih =>
    intro i z
    rw [foL_s, ih]
    unfold gvC
    split
    · rename_i h
      have : i ≠ c := fun e => hc (e ▸ h.1)
      exact payR_o _ (by omega)
    · rfl
theorem RZ.day {I0 I : Nat → Nat → Int32} {s0 : Nat → Int32} {z : (Nat → Int32) × Int32} (v : Int32) (h : RZ I0 s0 z I) : RZ I0 (fu s0 3 v) (dnC v z) (z_u I 62 3 v) := by
  obtain ⟨h1, h2, h3, h4, h5⟩ := h
  refine ⟨by rw [z_u_row, h1]; rfl, (z_u_p _ _ _ _ (by omega)).trans h2, h3.day, h4.day v, fun q k g1 g2 => ?_⟩
  rw [z_u_p _ _ _ _ (by omega)]
  exact h5 q k g1 g2
def dD (so : (Nat → Int64) → Nat → Bool) (n m : Nat) (z : (Nat → Int32) × Int32) : (Nat → Int32) × Int32 := dnC (z.1 3 + 1) (foL (hmC so n) 0 n (foL (dyC so n) 0 m z))
theorem lp_pass2 {x : Nat × (Nat → Int32)} {d : Nat} {R : Nat → Nat → Option Nat} {G : zG} {I0 : Nat → Nat → Int32} {s0 : Nat → Int32} {t n : Nat} (hR : Rs R) (hS : Sh G) (ht6 : t < 6) (hA : RuA I0 R G) (ht : t < cl (I0 0 4)) (hn : s0 1 = nI n) (hn8 : n ≤ 8) : ∀ (f i : Nat) (z : (Nat → Int32) × Int32) (I : Nat → Nat → Int32) (J : Nat → Nat → Int64) (u3 u4 u5 u6 : Value), i + f = n → RZ I0 s0 z I → zOk x (d + 6) 178 88 [.ref 51, .int (nI t), .int (nI i), u3, u4, u5, u6] [] (I, J, R, G) (fun v mm => v = none ∧ ∃ I' J', mm = (I', J', R, G) ∧ RZ I0 (fu s0 3 (s0 3 + 1)) (dnC (s0 3 + 1) (foL (hmC (soB I0 t) n) i f z)) I') := by
  intro f
  induction f with
  | zero =>
    intro i z I J u3 u4 u5 u6 hi hz
    have e1 : z.1 1 = nI n := (hz.2.2.2.1 1 (by omega)).trans hn
    have c1 : cl (z.1 1) = n := by rw [e1, cl_nI (by omega)]
    have hkr : Kr I0 I := hz.kr
    obtain ⟨r, hr1, hru⟩ := hA.2 t ht
    refine k_iload f178_88 rfl ?_
    refine k_aload f178_89 rfl ?_
    refine k_getr (q := 62) f178_90 hS.o51 rfl hR.r51_25 ?_
    refine k_iconst (v := 1) f178_93 rfl ?_
    refine k_ia (k := 1) (w := nI n) f178_94 hS.a62 rfl (by decide) (by decide) ((congrFun hz.1 1).trans e1) ?_
    refine k_ic_ge f178_95 (fun _ => ?_) (fun h_ => absurd (nI_le (by omega) (by omega)) h_)
    refine k_aload f178_135 rfl ?_
    refine k_getr (q := 62) f178_136 hS.o51 rfl hR.r51_25 ?_
    refine k_iconst (v := 3) f178_139 rfl ?_
    refine k_dup2 f178_140 ?_
    refine k_ia (k := 3) (w := z.1 3) f178_141 hS.a62 rfl (by decide) (by decide) (congrFun hz.1 3) ?_
    refine k_iconst (v := 1) f178_142 rfl ?_
    refine k_iadd f178_143 ?_
    refine k_is (k := 3) f178_144 hS.a62 rfl (by decide) (by decide) ?_
    exact k_vret f178_145 ⟨rfl, _, J, rfl, (congrArg (fun q => q + 1) (hz.2.2.2.1 3 (by omega))) ▸ hz.day ((z.1 3) + (1))⟩
  | succ f ih =>
    intro i z I J u3 u4 u5 u6 hi hz
    have e1 : z.1 1 = nI n := (hz.2.2.2.1 1 (by omega)).trans hn
    have c1 : cl (z.1 1) = n := by rw [e1, cl_nI (by omega)]
    have hkr : Kr I0 I := hz.kr
    obtain ⟨r, hr1, hru⟩ := hA.2 t ht
    have hin : i < n := by omega
    have hi8 : i < 8 := by omega
    have hcn : i < cl (z.1 1) := by omega
    have cok := hz.2.2.1.2.2 i hcn
    have hf : nI t = -1 ∨ Rg (nI t) (cl (I 0 4)) := Or.inr (by rw [hkr 0 4 (by omega)]; exact Rg.of ht (by have := hA.1.2; omega))
    by_cases hV : ¬ z.1 3 - z.1 (8 + 6 * i + 2) ≤ z.1 7
    · refine k_iload f178_88 rfl ?_
      refine k_aload f178_89 rfl ?_
      refine k_getr (q := 62) f178_90 hS.o51 rfl hR.r51_25 ?_
      refine k_iconst (v := 1) f178_93 rfl ?_
      refine k_ia (k := 1) (w := nI n) f178_94 hS.a62 rfl (by decide) (by decide) ((congrFun hz.1 1).trans e1) ?_
      refine k_ic_ge f178_95 (fun h_ => absurd h_ (nI_ge hin (by omega))) (fun _ => ?_)
      refine k_aload f178_98 rfl ?_
      refine k_iload f178_99 rfl ?_
      refine k_iload f178_100 rfl ?_
      refine e_v (as := [.int (nI t), .int (nI i)]) (rest := []) f178_101 hS.o51 rfl rfl rfl (bH1 (s := z.1) (c := i) (f := nI t) hR hS hz.1 e1 hn8 hin hV) ?_
      refine k_if_le f178_104 (fun h_ => absurd h_ (by decide)) (fun _ => ?_)
      refine k_goto f178_107 ?_
      refine k_iinc (w := nI (i + 1)) (L' := [.ref 51, .int (nI t), .int (nI (i + 1)), u3, u4, u5, u6]) f178_129 rfl (nI_1 i) rfl rfl ?_
      refine k_goto f178_132 ?_
      rw [foL_s, show hmC (soB I0 t) n i z = z from if_neg fun h => hV h.2.1]
      exact ih (i + 1) z _ J _ _ _ _ (by omega) hz
    · by_cases hF : z.1 (8 + 6 * i + 4) = 0
      · refine k_iload f178_88 rfl ?_
        refine k_aload f178_89 rfl ?_
        refine k_getr (q := 62) f178_90 hS.o51 rfl hR.r51_25 ?_
        refine k_iconst (v := 1) f178_93 rfl ?_
        refine k_ia (k := 1) (w := nI n) f178_94 hS.a62 rfl (by decide) (by decide) ((congrFun hz.1 1).trans e1) ?_
        refine k_ic_ge f178_95 (fun h_ => absurd h_ (nI_ge hin (by omega))) (fun _ => ?_)
        refine k_aload f178_98 rfl ?_
        refine k_iload f178_99 rfl ?_
        refine k_iload f178_100 rfl ?_
        refine e_v (as := [.int (nI t), .int (nI i)]) (rest := []) f178_101 hS.o51 rfl rfl rfl (bH2 (s := z.1) (c := i) (f := nI t) hR hS hz.1 e1 hn8 hin hV hF) ?_
        refine k_if_le f178_104 (fun h_ => absurd h_ (by decide)) (fun _ => ?_)
        refine k_goto f178_107 ?_
        refine k_iinc (w := nI (i + 1)) (L' := [.ref 51, .int (nI t), .int (nI (i + 1)), u3, u4, u5, u6]) f178_129 rfl (nI_1 i) rfl rfl ?_
        refine k_goto f178_132 ?_
        rw [foL_s, show hmC (soB I0 t) n i z = z from if_neg fun h => h.1 hF]
        exact ih (i + 1) z _ J _ _ _ _ (by omega) hz
      · by_cases h1 : soB I0 t (wH z.1 n i) 1 = true
        · refine k_iload f178_88 rfl ?_
          refine k_aload f178_89 rfl ?_
          refine k_getr (q := 62) f178_90 hS.o51 rfl hR.r51_25 ?_
          refine k_iconst (v := 1) f178_93 rfl ?_
          refine k_ia (k := 1) (w := nI n) f178_94 hS.a62 rfl (by decide) (by decide) ((congrFun hz.1 1).trans e1) ?_
          refine k_ic_ge f178_95 (fun h_ => absurd h_ (nI_ge hin (by omega))) (fun _ => ?_)
          refine k_aload f178_98 rfl ?_
          refine k_iload f178_99 rfl ?_
          refine k_iload f178_100 rfl ?_
          refine k_callv (as := [.int (nI t), .int (nI i)]) (rest := []) f178_101 hS.o51 rfl rfl rfl rfl (bH3 (s := z.1) (c := i) (f := nI t) hR hS hz.1 e1 hn8 hin (hA.kr hkr) hf cok.2.1 hV hF (by rw [baB_t I ht6, soB_kr hkr]; exact h1)) ?_
          rintro _ _ ⟨rfl, I2, J3, rfl, hI2⟩
          have hz2 := hz.sc hI2
          refine k_if_le f178_104 (fun h_ => absurd h_ (by decide)) (fun _ => ?_)
          refine k_goto f178_107 ?_
          refine k_iinc (w := nI (i + 1)) (L' := [.ref 51, .int (nI t), .int (nI (i + 1)), u3, u4, u5, u6]) f178_129 rfl (nI_1 i) rfl rfl ?_
          refine k_goto f178_132 ?_
          rw [foL_s, show hmC (soB I0 t) n i z = z from if_neg fun h => h.2.2.1 h1]
          exact ih (i + 1) z _ J3 _ _ _ _ (by omega) hz2
        · by_cases h2 : soB I0 t (wH z.1 n i) 2 = true
          · refine k_iload f178_88 rfl ?_
            refine k_aload f178_89 rfl ?_
            refine k_getr (q := 62) f178_90 hS.o51 rfl hR.r51_25 ?_
            refine k_iconst (v := 1) f178_93 rfl ?_
            refine k_ia (k := 1) (w := nI n) f178_94 hS.a62 rfl (by decide) (by decide) ((congrFun hz.1 1).trans e1) ?_
            refine k_ic_ge f178_95 (fun h_ => absurd h_ (nI_ge hin (by omega))) (fun _ => ?_)
            refine k_aload f178_98 rfl ?_
            refine k_iload f178_99 rfl ?_
            refine k_iload f178_100 rfl ?_
            refine k_callv (as := [.int (nI t), .int (nI i)]) (rest := []) f178_101 hS.o51 rfl rfl rfl rfl (bH0 (s := z.1) (c := i) (f := nI t) hR hS hz.1 e1 hn8 hin (hA.kr hkr) hf cok.2.1 hV hF (by rw [baB_t I ht6, soB_kr hkr]; exact h1)) ?_
            rintro _ _ ⟨rfl, I2, J3, rfl, hI2⟩
            have hz2 := hz.sc hI2
            refine k_if_le f178_104 (fun _ => ?_) (fun h_ => absurd (by decide) h_)
            refine k_aload f178_110 rfl ?_
            refine k_iload f178_111 rfl ?_
            refine k_callv (as := [.int (nI i)]) (rest := []) f178_112 hS.o51 rfl rfl rfl rfl (r_home (c := i) hR hS hz2.1 e1 hn8 hin cok.2.1) ?_
            rintro _ _ ⟨rfl, J4, rfl, hJ4⟩
            refine k_aload f178_115 rfl ?_
            refine k_iload f178_116 rfl ?_
            refine k_iconst (v := 2) f178_117 rfl ?_
            refine k_callv (as := [.int (2), .int (nI t)]) (rest := []) f178_118 hS.o51 rfl rfl rfl rfl (q_isSo (kd := 2) (w := wH z.1 n i) hR hS ht6 hz2.kr hru (by decide) hJ4) ?_
            rintro _ _ ⟨rfl, I3, J5, rfl, hI3, hJ5⟩
            have hz3 := hz2.sc hI3
            refine k_beq f178_121 (fun h_ => absurd (h2) h_) (fun _ => ?_)
            refine k_aload f178_124 rfl ?_
            refine k_iload f178_125 rfl ?_
            refine e_v (as := [.int (nI i)]) (rest := []) f178_126 hS.o51 rfl rfl rfl (s_brings (c := i) (dy := z.1 3) (ho := z.1 (8 + 6 * i + 1)) (hm := z.1 (8 + 6 * i + 5)) (hc := z.1 4) hR hS hi8 (congrFun hz3.1 _) (congrFun hz3.1 _) (congrFun hz3.1 _) (congrFun hz3.1 _)) ?_
            refine k_iinc (w := nI (i + 1)) (L' := [.ref 51, .int (nI t), .int (nI (i + 1)), u3, u4, u5, u6]) f178_129 rfl (nI_1 i) rfl rfl ?_
            refine k_goto f178_132 ?_
            rw [foL_s, show hmC (soB I0 t) n i z = (homR z.1 i, z.2) from if_pos ⟨hF, Classical.not_not.mp hV, h1, h2⟩]
            exact ih (i + 1) (homR z.1 i, z.2) _ J5 _ _ _ _ (by omega) (hz3.hom hcn)
          · refine k_iload f178_88 rfl ?_
            refine k_aload f178_89 rfl ?_
            refine k_getr (q := 62) f178_90 hS.o51 rfl hR.r51_25 ?_
            refine k_iconst (v := 1) f178_93 rfl ?_
            refine k_ia (k := 1) (w := nI n) f178_94 hS.a62 rfl (by decide) (by decide) ((congrFun hz.1 1).trans e1) ?_
            refine k_ic_ge f178_95 (fun h_ => absurd h_ (nI_ge hin (by omega))) (fun _ => ?_)
            refine k_aload f178_98 rfl ?_
            refine k_iload f178_99 rfl ?_
            refine k_iload f178_100 rfl ?_
            refine k_callv (as := [.int (nI t), .int (nI i)]) (rest := []) f178_101 hS.o51 rfl rfl rfl rfl (bH0 (s := z.1) (c := i) (f := nI t) hR hS hz.1 e1 hn8 hin (hA.kr hkr) hf cok.2.1 hV hF (by rw [baB_t I ht6, soB_kr hkr]; exact h1)) ?_
            rintro _ _ ⟨rfl, I2, J3, rfl, hI2⟩
            have hz2 := hz.sc hI2
            refine k_if_le f178_104 (fun _ => ?_) (fun h_ => absurd (by decide) h_)
            refine k_aload f178_110 rfl ?_
            refine k_iload f178_111 rfl ?_
            refine k_callv (as := [.int (nI i)]) (rest := []) f178_112 hS.o51 rfl rfl rfl rfl (r_home (c := i) hR hS hz2.1 e1 hn8 hin cok.2.1) ?_
            rintro _ _ ⟨rfl, J4, rfl, hJ4⟩
            refine k_aload f178_115 rfl ?_
            refine k_iload f178_116 rfl ?_
            refine k_iconst (v := 2) f178_117 rfl ?_
            refine k_callv (as := [.int (2), .int (nI t)]) (rest := []) f178_118 hS.o51 rfl rfl rfl rfl (q_isSo (kd := 2) (w := wH z.1 n i) hR hS ht6 hz2.kr hru (by decide) hJ4) ?_
            rintro _ _ ⟨rfl, I3, J5, rfl, hI3, hJ5⟩
            have hz3 := hz2.sc hI3
            refine k_beq f178_121 (fun _ => ?_) (fun h_ => (absurd h_ (h2)))
            refine k_iinc (w := nI (i + 1)) (L' := [.ref 51, .int (nI t), .int (nI (i + 1)), u3, u4, u5, u6]) f178_129 rfl (nI_1 i) rfl rfl ?_
            refine k_goto f178_132 ?_
            rw [foL_s, show hmC (soB I0 t) n i z = z from if_neg fun h => h2 h.2.2.2]
            exact ih (i + 1) z _ J5 _ _ _ _ (by omega) hz3
theorem lp_pass1 {x : Nat × (Nat → Int32)} {d : Nat} {R : Nat → Nat → Option Nat} {G : zG} {I0 : Nat → Nat → Int32} {s0 : Nat → Int32} {t n m : Nat} (hR : Rs R) (hS : Sh G) (ht6 : t < 6) (hA : RuA I0 R G) (ht : t < cl (I0 0 4)) (hn : s0 1 = nI n) (hn8 : n ≤ 8) (hmw : MW s0 m) : ∀ (f i : Nat) (z : (Nat → Int32) × Int32) (I : Nat → Nat → Int32) (J : Nat → Nat → Int64) (u3 u4 u5 u6 : Value), i + f = m → RZ I0 s0 z I → zOk x (d + 6) 178 2 [.ref 51, .int (nI t), .int (nI i), u3, u4, u5, u6] [] (I, J, R, G) (fun v mm => v = none ∧ ∃ I' J', mm = (I', J', R, G) ∧ RZ I0 (fu s0 3 (s0 3 + 1)) (dnC (s0 3 + 1) (foL (hmC (soB I0 t) n) 0 n (foL (dyC (soB I0 t) n) i f z))) I') := by
  intro f
  induction f with
  | zero =>
    intro i z I J u3 u4 u5 u6 hi hz
    have e1 : z.1 1 = nI n := (hz.2.2.2.1 1 (by omega)).trans hn
    have c1 : cl (z.1 1) = n := by rw [e1, cl_nI (by omega)]
    have hkr : Kr I0 I := hz.kr
    obtain ⟨r, hr1, hru⟩ := hA.2 t ht
    have hmz := hmw.af hz.2.2.2.1
    have hm25 := hmw.2.1
    refine k_iload f178_2 rfl ?_
    refine k_aload f178_3 rfl ?_
    refine k_getr (q := 62) f178_4 hS.o51 rfl hR.r51_25 ?_
    refine k_iconst (v := 2) f178_7 rfl ?_
    refine k_ia (k := 2) (w := nI m) f178_8 hS.a62 rfl (by decide) (by decide) ((congrFun hz.1 2).trans hmz.1) ?_
    refine k_ic_ge f178_9 (fun _ => ?_) (fun h_ => absurd (nI_le (by omega) (by omega)) h_)
    refine k_iconst (v := 0) f178_86 rfl ?_
    refine k_istore (L' := [.ref 51, .int (nI t), .int (0), u3, u4, u5, u6]) f178_87 rfl rfl ?_
    exact lp_pass2 hR hS ht6 hA ht hn hn8 n 0 z I J _ _ _ _ (by omega) hz
  | succ f ih =>
    intro i z I J u3 u4 u5 u6 hi hz
    have e1 : z.1 1 = nI n := (hz.2.2.2.1 1 (by omega)).trans hn
    have c1 : cl (z.1 1) = n := by rw [e1, cl_nI (by omega)]
    have hkr : Kr I0 I := hz.kr
    obtain ⟨r, hr1, hru⟩ := hA.2 t ht
    have hmz := hmw.af hz.2.2.2.1
    have hm25 := hmw.2.1
    have hin : i < m := by omega
    have hmi := hmz.2.2 i hin
    have hmi0 := hmw.2.2 i hin
    have q1 := hz.2.2.2.1 (56 + 3 * i + 1) (by omega)
    have q2 := hz.2.2.2.1 (56 + 3 * i + 2) (by omega)
    have h11 : cl (s0 0) < 11 := by rw [← hz.2.2.2.1 0 (by omega)]; exact hz.2.2.1.1.2
    have hmm : ∀ j, j < m → Rg (s0 (56 + 3 * j + 1)) 10 ∧ Rg (s0 (56 + 3 * j + 2)) 10 := fun j hj => ⟨(hmw.2.2 j hj).1.le (by omega), (hmw.2.2 j hj).2.1.le (by omega)⟩
    obtain ⟨a, ea⟩ : ∃ a, a = cl (z.1 (56 + 3 * i + 1)) := ⟨_, rfl⟩
    obtain ⟨b, eb⟩ : ∃ b, b = cl (z.1 (56 + 3 * i + 2)) := ⟨_, rfl⟩
    have va : z.1 (56 + 3 * i + 1) = nI a := by rw [ea]; exact hmi.1.1
    have vb : z.1 (56 + 3 * i + 2) = nI b := by rw [eb]; exact hmi.2.1.1
    have la : a < cl (s0 0) := by rw [ea, q1]; exact hmi0.1.2
    have lb : b < cl (s0 0) := by rw [eb, q2]; exact hmi0.2.1.2
    have nab : nI a ≠ nI b := by rw [← va, ← vb]; exact hmi.2.2
    obtain ⟨ka, ka1, ka2, ka3⟩ := held_eq (s := z.1) (p := nI a) n hn8
    obtain ⟨kb, kb1, kb2, kb3⟩ := held_eq (s := z.1) (p := nI b) n hn8
    obtain ⟨k, k1, k2, k3⟩ := met_eq (s := s0) (p := nI a) m hmm
    obtain ⟨l, l1, l2, l3⟩ := met_eq (s := s0) (p := nI b) m hmm
    by_cases hT : z.1 (56 + 3 * i) = z.1 3
    · have hT0 : s0 (56 + 3 * i) = s0 3 := by rw [← hz.2.2.2.1 (56 + 3 * i) (by omega), ← hz.2.2.2.1 3 (by omega)]; exact hT
      have tka : k.testBit b = true := by rw [eb, q2]; exact (k3 i hin hT0 hmi0.2.2).1 (q1 ▸ va)
      have tlb : l.testBit a = true := by rw [ea, q1]; exact (l3 i hin hT0 hmi0.2.2).2 (q2 ▸ vb)
      have eM : dyC (soB I0 t) n i z = foL (gvC (soB I0 t) n kb a) 0 n (foL (gvC (soB I0 t) n ka b) 0 n z) := by
        have j1 := lt_1024 ka1 hn8
        have j2 := lt_1024 kb1 hn8
        unfold dyC mtC
        rw [if_pos hT, ← ea, ← eb, ka2, kb2, cl_nI (by omega), cl_nI (by omega)]
      refine k_iload f178_2 rfl ?_
      refine k_aload f178_3 rfl ?_
      refine k_getr (q := 62) f178_4 hS.o51 rfl hR.r51_25 ?_
      refine k_iconst (v := 2) f178_7 rfl ?_
      refine k_ia (k := 2) (w := nI m) f178_8 hS.a62 rfl (by decide) (by decide) ((congrFun hz.1 2).trans hmz.1) ?_
      refine k_ic_ge f178_9 (fun h_ => absurd h_ (nI_ge hin (by omega))) (fun _ => ?_)
      refine k_aload f178_12 rfl ?_
      refine k_iload f178_13 rfl ?_
      refine k_iconst (v := 0) f178_14 rfl ?_
      refine e_v (as := [.int (0), .int (nI i)]) (rest := []) f178_15 hS.o51 rfl rfl rfl (s_meetOf (c := i) (k := 0) (v := z.1 (56 + 3 * i)) hR hS (by omega) (congrFun hz.1 _)) ?_
      refine k_aload f178_18 rfl ?_
      refine k_getr (q := 62) f178_19 hS.o51 rfl hR.r51_25 ?_
      refine k_iconst (v := 3) f178_22 rfl ?_
      refine k_ia (k := 3) (w := z.1 3) f178_23 hS.a62 rfl (by decide) (by decide) (congrFun hz.1 3) ?_
      refine k_ic_eq f178_24 (fun _ => ?_) (fun h_ => absurd (hT) h_)
      refine k_aload f178_30 rfl ?_
      refine k_iload f178_31 rfl ?_
      refine k_iconst (v := 1) f178_32 rfl ?_
      refine e_v (as := [.int (1), .int (nI i)]) (rest := []) f178_33 hS.o51 rfl rfl rfl (s_meetOf (c := i) (k := 1) (v := nI a) hR hS (by omega) ((congrFun hz.1 _).trans va)) ?_
      refine k_istore (L' := [.ref 51, .int (nI t), .int (nI i), .int (nI a), u4, u5, u6]) f178_36 rfl rfl ?_
      refine k_aload f178_37 rfl ?_
      refine k_iload f178_38 rfl ?_
      refine k_iconst (v := 2) f178_39 rfl ?_
      refine e_v (as := [.int (2), .int (nI i)]) (rest := []) f178_40 hS.o51 rfl rfl rfl (s_meetOf (c := i) (k := 2) (v := nI b) hR hS (by omega) ((congrFun hz.1 _).trans vb)) ?_
      refine k_istore (L' := [.ref 51, .int (nI t), .int (nI i), .int (nI a), .int (nI b), u5, u6]) f178_43 rfl rfl ?_
      refine k_aload f178_45 rfl ?_
      refine k_iload f178_46 rfl ?_
      refine e_v (as := [.int (nI a)]) (rest := []) f178_47 hS.o51 rfl rfl rfl ((by have h := s_purseOf (x := x) (d := d + 4) (J := J) (p := nI a) hR hS hz.1 e1 hn8; rw [ka2] at h; exact h)) ?_
      refine k_istore (L' := [.ref 51, .int (nI t), .int (nI i), .int (nI a), .int (nI b), .int (nI ka), u6]) f178_50 rfl rfl ?_
      refine k_aload f178_52 rfl ?_
      refine k_iload f178_53 rfl ?_
      refine e_v (as := [.int (nI b)]) (rest := []) f178_55 hS.o51 rfl rfl rfl ((by have h := s_purseOf (x := x) (d := d + 4) (J := J) (p := nI b) hR hS hz.1 e1 hn8; rw [kb2] at h; exact h)) ?_
      refine k_istore (L' := [.ref 51, .int (nI t), .int (nI i), .int (nI a), .int (nI b), .int (nI ka), .int (nI kb)]) f178_58 rfl rfl ?_
      refine k_aload f178_60 rfl ?_
      refine k_iload f178_61 rfl ?_
      refine k_iload f178_62 rfl ?_
      refine k_iload f178_64 rfl ?_
      refine k_iload f178_65 rfl ?_
      refine k_callv (as := [.int (nI b), .int (nI a), .int (nI ka), .int (nI t)]) (rest := []) f178_67 hS.o51 rfl rfl rfl rfl (q_give (b := ka) (p := b) (a := a) hR hS ht6 hA ht hn hn8 hmw (lt_1024 ka1 hn8) lb (by omega) k1 k2 tka hz (fun c hc hb => ((ka3 c).mp hb).2)) ?_
      rintro _ _ ⟨rfl, I1, J1, rfl, hz1⟩
      refine k_aload f178_70 rfl ?_
      refine k_iload f178_71 rfl ?_
      refine k_iload f178_72 rfl ?_
      refine k_iload f178_74 rfl ?_
      refine k_iload f178_76 rfl ?_
      refine k_callv (as := [.int (nI a), .int (nI b), .int (nI kb), .int (nI t)]) (rest := []) f178_77 hS.o51 rfl rfl rfl rfl (q_give (b := kb) (p := a) (a := b) hR hS ht6 hA ht hn hn8 hmw (lt_1024 kb1 hn8) la (by omega) l1 l2 tlb hz1 (fun c hc hb => (gv_keep (fun hk => nab (((ka3 c).mp hk).2.symm.trans ((kb3 c).mp hb).2)) _ _ _).trans ((kb3 c).mp hb).2)) ?_
      rintro _ _ ⟨rfl, I2, J2, rfl, hz2⟩
      refine k_iinc (w := nI (i + 1)) (L' := [.ref 51, .int (nI t), .int (nI (i + 1)), .int (nI a), .int (nI b), .int (nI ka), .int (nI kb)]) f178_80 rfl (nI_1 i) rfl rfl ?_
      refine k_goto f178_83 ?_
      rw [foL_s, eM]
      exact ih (i + 1) _ I2 J2 _ _ _ _ (by omega) hz2
    · refine k_iload f178_2 rfl ?_
      refine k_aload f178_3 rfl ?_
      refine k_getr (q := 62) f178_4 hS.o51 rfl hR.r51_25 ?_
      refine k_iconst (v := 2) f178_7 rfl ?_
      refine k_ia (k := 2) (w := nI m) f178_8 hS.a62 rfl (by decide) (by decide) ((congrFun hz.1 2).trans hmz.1) ?_
      refine k_ic_ge f178_9 (fun h_ => absurd h_ (nI_ge hin (by omega))) (fun _ => ?_)
      refine k_aload f178_12 rfl ?_
      refine k_iload f178_13 rfl ?_
      refine k_iconst (v := 0) f178_14 rfl ?_
      refine e_v (as := [.int (0), .int (nI i)]) (rest := []) f178_15 hS.o51 rfl rfl rfl (s_meetOf (c := i) (k := 0) (v := z.1 (56 + 3 * i)) hR hS (by omega) (congrFun hz.1 _)) ?_
      refine k_aload f178_18 rfl ?_
      refine k_getr (q := 62) f178_19 hS.o51 rfl hR.r51_25 ?_
      refine k_iconst (v := 3) f178_22 rfl ?_
      refine k_ia (k := 3) (w := z.1 3) f178_23 hS.a62 rfl (by decide) (by decide) (congrFun hz.1 3) ?_
      refine k_ic_eq f178_24 (fun h_ => absurd h_ (hT)) (fun _ => ?_)
      refine k_goto f178_27 ?_
      refine k_iinc (w := nI (i + 1)) (L' := [.ref 51, .int (nI t), .int (nI (i + 1)), u3, u4, u5, u6]) f178_80 rfl (nI_1 i) rfl rfl ?_
      refine k_goto f178_83 ?_
      rw [foL_s, show dyC (soB I0 t) n i z = z from if_neg hT]
      exact ih (i + 1) z I J _ _ _ _ (by omega) hz
theorem q_passes {x : Nat × (Nat → Int32)} {d : Nat} {R : Nat → Nat → Option Nat} {G : zG} {I0 : Nat → Nat → Int32} {s0 : Nat → Int32} {I : Nat → Nat → Int32} {J : Nat → Nat → Int64} {z : (Nat → Int32) × Int32} {t n m : Nat} (hR : Rs R) (hS : Sh G) (ht6 : t < 6) (hA : RuA I0 R G) (ht : t < cl (I0 0 4)) (hn : s0 1 = nI n) (hn8 : n ≤ 8) (hmw : MW s0 m) (hz : RZ I0 s0 z I) : zOk x (d + 6) 178 0 [.ref 51, .int (nI t), zU, zU, zU, zU, zU] [] (I, J, R, G) (fun v mm => v = none ∧ ∃ I' J', mm = (I', J', R, G) ∧ RZ I0 (fu s0 3 (s0 3 + 1)) (dD (soB I0 t) n m z) I') := by
  refine k_iconst (v := 0) f178_0 rfl ?_
  refine k_istore (L' := [.ref 51, .int (nI t), .int (0), zU, zU, zU, zU]) f178_1 rfl rfl ?_
  rw [show dD (soB I0 t) n m z = dnC (s0 3 + 1) (foL (hmC (soB I0 t) n) 0 n (foL (dyC (soB I0 t) n) 0 m z)) from by unfold dD; rw [hz.2.2.2.1 3 (by omega)]]
  exact lp_pass1 hR hS ht6 hA ht hn hn8 hmw m 0 z I J _ _ _ _ (by omega) hz
