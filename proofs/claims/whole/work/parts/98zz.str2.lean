/-! STRANGERS: who could have the lost ones, in the reference. -/
def RFh (I0 I : Nat → Nat → Int32) : Prop := ∀ p k, ¬ (64 ≤ p ∧ p ≤ 66) → ¬ (p = 51 ∧ (k = 23 ∨ k = 29 ∨ k = 31 ∨ k = 32 ∨ k = 33)) → I p k = I0 p k
theorem RFh.kr {I0 I : Nat → Nat → Int32} (h : RFh I0 I) : Kr I0 I := fun p k hp => h p k (by omega) (by omega)
theorem RFh.tr {I0 I1 I2 : Nat → Nat → Int32} (h : RFh I0 I1) (g : RF2 I1 I2) : RFh I0 I2 := fun p k q1 q2 => (g p k (by omega) q2).trans (h p k q1 q2)
theorem lp_strM {x : Nat × (Nat → Int32)} {d : Nat} {G : zG} {I0 : Nat → Nat → Int32} {R : Nat → Nat → Option Nat} {s : Nat → Int32} {Q : Option Value → zM → Prop} (hR : Rs R) (hS : Sh G) (hs0 : I0 62 = s) (hO : SOk s (cl (I0 0 4))) (hA0 : RuA I0 R G) (hk : ∀ I' J' u2 u3 u4 u5, RFh I0 I' → RwL I' 66 (rcL I0 s (cl (s 1))) → zOk x (d + 7) 191 68 [.ref 51, .int (nI (rcL I0 s (cl (s 1))).length), u2, u3, u4, u5] [] (I', J', R, G) Q) : ∀ (f i : Nat) (I : Nat → Nat → Int32) (J : Nat → Nat → Int64) (u3 u4 u5 : Value), i + f = cl (s 1) → (RFh I0 I ∧ RwL I 66 (rcL I0 s i)) → zOk x (d + 7) 191 15 [.ref 51, .int (nI (rcL I0 s i).length), .int (nI i), u3, u4, u5] [] (I, J, R, G) Q := by
  intro f
  induction f with
  | zero =>
    intro i I J u3 u4 u5 hi hz
    obtain ⟨hz, hrl⟩ := hz
    have hn9 := hO.2.1.2
    have hs : I 62 = s := (funext fun k => hz 62 k (by omega) (by omega)).trans hs0
    have kr := hz.kr
    have hA := hA0.kr kr
    have hO1 : SOk s (cl (I 0 4)) := by rw [kr 0 4 (by omega)]; exact hO
    refine k_iload f191_15 rfl ?_
    refine k_aload f191_16 rfl ?_
    refine k_getr (q := 62) f191_17 hS.o51 rfl hR.r51_25 ?_
    refine k_iconst (v := 1) f191_20 rfl ?_
    refine k_ia (k := 1) (w := nI (cl (s 1))) f191_21 hS.a62 rfl (by decide) (by decide) ((congrFun hs 1).trans hO.2.1.1) ?_
    refine k_ic_ge f191_22 (fun _ => ?_) (fun h_ => absurd (nI_le (by omega) (by omega)) h_)
    have e : i = cl (s 1) := by omega
    subst e
    exact hk I J _ _ _ _ hz hrl
  | succ f ih =>
    intro i I J u3 u4 u5 hi hz
    obtain ⟨hz, hrl⟩ := hz
    have hn9 := hO.2.1.2
    have hs : I 62 = s := (funext fun k => hz 62 k (by omega) (by omega)).trans hs0
    have kr := hz.kr
    have hA := hA0.kr kr
    have hO1 : SOk s (cl (I 0 4)) := by rw [kr 0 4 (by omega)]; exact hO
    have hin : i < cl (s 1) := by omega
    have he := sek (b := I0) (g := 0) hO hin
    have hn := FDk_n (b := I0) (c := i) (g := 0) hO
    obtain ⟨L, eL⟩ : ∃ L, L = rcL I0 s i := ⟨_, rfl⟩
    have hL8 : L.length ≤ i := by rw [eL]; exact rcL_len i
    rw [← eL] at hrl ⊢
    by_cases hd : 0 ≤ (FDk I0 s i 0).1
    · refine k_iload f191_15 rfl ?_
      refine k_aload f191_16 rfl ?_
      refine k_getr (q := 62) f191_17 hS.o51 rfl hR.r51_25 ?_
      refine k_iconst (v := 1) f191_20 rfl ?_
      refine k_ia (k := 1) (w := nI (cl (s 1))) f191_21 hS.a62 rfl (by decide) (by decide) ((congrFun hs 1).trans hO.2.1.1) ?_
      refine k_ic_ge f191_22 (fun h_ => absurd h_ (nI_ge hin (by omega))) (fun _ => ?_)
      refine k_aload f191_25 rfl ?_
      refine k_iload f191_26 rfl ?_
      refine k_iconst (v := 0) f191_27 rfl ?_
      refine k_callv (as := [.int (0), .int (nI i)]) (rest := []) f191_28 hS.o51 rfl rfl rfl rfl (q_sFor (c := i) (g := 0) (s := s) hR hS hs hO1 hA hin (by omega)) ?_
      rintro _ _ ⟨rfl, I1, J1, rfl, hz1, hf1⟩
      rw [SEk_kr kr] at hz1
      have hz2 : RFh I0 I1 := hz.tr hf1
      have hs1 : I1 62 = s := (funext fun k => hz2 62 k (by omega) (by omega)).trans hs0
      have hrl2 : RwL I1 66 L := fun k hk => (hf1 66 k (by omega) (by omega)).trans (hrl k hk)
      refine k_aload f191_31 rfl ?_
      refine k_gI (w := (FDk I0 s i 0).1) f191_32 hS.o51 rfl (hz1.2.2.2.1.trans he.1) ?_
      refine k_if_ge f191_35 (fun _ => ?_) (fun h_ => absurd (hd) h_)
      refine k_iinc (w := nI (i + 1)) (L' := [.ref 51, .int (nI L.length), .int (nI (i + 1)), u3, u4, u5]) f191_62 rfl (nI_1 i) rfl rfl ?_
      refine k_goto f191_65 ?_
      have e : rcL I0 s (i + 1) = L := by rw [eL]; exact if_neg (fun q => hn.mpr q.2 hd)
      refine Eq.mp ?_ (ih (i + 1) I1 J1 u3 u4 u5 (by omega) ⟨hz2, by rw [e]; exact hrl2⟩)
      rw [e]
      rfl
    · by_cases hv : ¬ s 3 - s (8 + 6 * i + 2) ≤ s 7
      · refine k_iload f191_15 rfl ?_
        refine k_aload f191_16 rfl ?_
        refine k_getr (q := 62) f191_17 hS.o51 rfl hR.r51_25 ?_
        refine k_iconst (v := 1) f191_20 rfl ?_
        refine k_ia (k := 1) (w := nI (cl (s 1))) f191_21 hS.a62 rfl (by decide) (by decide) ((congrFun hs 1).trans hO.2.1.1) ?_
        refine k_ic_ge f191_22 (fun h_ => absurd h_ (nI_ge hin (by omega))) (fun _ => ?_)
        refine k_aload f191_25 rfl ?_
        refine k_iload f191_26 rfl ?_
        refine k_iconst (v := 0) f191_27 rfl ?_
        refine k_callv (as := [.int (0), .int (nI i)]) (rest := []) f191_28 hS.o51 rfl rfl rfl rfl (q_sFor (c := i) (g := 0) (s := s) hR hS hs hO1 hA hin (by omega)) ?_
        rintro _ _ ⟨rfl, I1, J1, rfl, hz1, hf1⟩
        rw [SEk_kr kr] at hz1
        have hz2 : RFh I0 I1 := hz.tr hf1
        have hs1 : I1 62 = s := (funext fun k => hz2 62 k (by omega) (by omega)).trans hs0
        have hrl2 : RwL I1 66 L := fun k hk => (hf1 66 k (by omega) (by omega)).trans (hrl k hk)
        refine k_aload f191_31 rfl ?_
        refine k_gI (w := (FDk I0 s i 0).1) f191_32 hS.o51 rfl (hz1.2.2.2.1.trans he.1) ?_
        refine k_if_ge f191_35 (fun h_ => absurd h_ (hd)) (fun _ => ?_)
        refine k_aload f191_38 rfl ?_
        refine k_iload f191_39 rfl ?_
        refine e_v (as := [.int (nI i)]) (rest := []) f191_40 hS.o51 rfl rfl rfl (s_isVoidM (c := i) hR hS hs1 (by omega)) ?_
        refine k_beq f191_43 (fun h_ => absurd (hv) h_) (fun _ => ?_)
        refine k_goto f191_46 ?_
        refine k_iinc (w := nI (i + 1)) (L' := [.ref 51, .int (nI L.length), .int (nI (i + 1)), u3, u4, u5]) f191_62 rfl (nI_1 i) rfl rfl ?_
        refine k_goto f191_65 ?_
        have e : rcL I0 s (i + 1) = L := by rw [eL]; exact if_neg (fun q => hv q.1)
        refine Eq.mp ?_ (ih (i + 1) I1 J1 u3 u4 u5 (by omega) ⟨hz2, by rw [e]; exact hrl2⟩)
        rw [e]
        rfl
      · refine k_iload f191_15 rfl ?_
        refine k_aload f191_16 rfl ?_
        refine k_getr (q := 62) f191_17 hS.o51 rfl hR.r51_25 ?_
        refine k_iconst (v := 1) f191_20 rfl ?_
        refine k_ia (k := 1) (w := nI (cl (s 1))) f191_21 hS.a62 rfl (by decide) (by decide) ((congrFun hs 1).trans hO.2.1.1) ?_
        refine k_ic_ge f191_22 (fun h_ => absurd h_ (nI_ge hin (by omega))) (fun _ => ?_)
        refine k_aload f191_25 rfl ?_
        refine k_iload f191_26 rfl ?_
        refine k_iconst (v := 0) f191_27 rfl ?_
        refine k_callv (as := [.int (0), .int (nI i)]) (rest := []) f191_28 hS.o51 rfl rfl rfl rfl (q_sFor (c := i) (g := 0) (s := s) hR hS hs hO1 hA hin (by omega)) ?_
        rintro _ _ ⟨rfl, I1, J1, rfl, hz1, hf1⟩
        rw [SEk_kr kr] at hz1
        have hz2 : RFh I0 I1 := hz.tr hf1
        have hs1 : I1 62 = s := (funext fun k => hz2 62 k (by omega) (by omega)).trans hs0
        have hrl2 : RwL I1 66 L := fun k hk => (hf1 66 k (by omega) (by omega)).trans (hrl k hk)
        refine k_aload f191_31 rfl ?_
        refine k_gI (w := (FDk I0 s i 0).1) f191_32 hS.o51 rfl (hz1.2.2.2.1.trans he.1) ?_
        refine k_if_ge f191_35 (fun h_ => absurd h_ (hd)) (fun _ => ?_)
        refine k_aload f191_38 rfl ?_
        refine k_iload f191_39 rfl ?_
        refine e_v (as := [.int (nI i)]) (rest := []) f191_40 hS.o51 rfl rfl rfl (s_isVoidM (c := i) hR hS hs1 (by omega)) ?_
        refine k_beq f191_43 (fun _ => ?_) (fun h_ => (absurd h_ (hv)))
        refine k_aload f191_49 rfl ?_
        refine k_getr (q := 66) f191_50 hS.o51 rfl hR.r51_34 ?_
        refine k_iload f191_53 rfl ?_
        refine k_aload f191_54 rfl ?_
        refine k_gI (w := nI (FDk I0 s i 0).2) f191_55 hS.o51 rfl (hz1.1.trans (congrArg nI (he.2 (hn.mp hd)))) ?_
        refine k_is (k := L.length) f191_58 hS.a66 rfl (by omega) (by decide) ?_
        refine k_iinc (w := nI (L.length + 1)) (L' := [.ref 51, .int (nI (L.length + 1)), .int (nI i), u3, u4, u5]) f191_59 rfl (nI_1 L.length) rfl rfl ?_
        refine k_iinc (w := nI (i + 1)) (L' := [.ref 51, .int (nI (L.length + 1)), .int (nI (i + 1)), u3, u4, u5]) f191_62 rfl (nI_1 i) rfl rfl ?_
        refine k_goto f191_65 ?_
        have e : rcL I0 s (i + 1) = L ++ [(FDk I0 s i 0).2] := by rw [eL]; exact if_pos ⟨Classical.not_not.mp hv, hn.mp hd⟩
        refine Eq.mp ?_ (ih (i + 1) (z_u I1 66 L.length (nI (FDk I0 s i 0).2)) J1 u3 u4 u5 (by omega) ⟨fun p k h1 h2 => by rw [z_u_p _ _ _ _ (by omega)]; exact hz2 p k h1 h2, by rw [e]; exact hrl2.put⟩)
        rw [e, List.length_append]
        rfl
