/-! GIVING, in the reference. -/
theorem fM_af {s0 s : Nat → Int32} (h : AF s0 s) (p : Int32) : ∀ m, acc (fM s p) m = acc (fM s0 p) m := by
  intro m
  induction m with
  | zero => rfl
  | succ m ih =>
    rw [acc_s, acc_s, ih]
    unfold fM
    rw [h 3 (by omega), h (56 + 3 * m) (by omega), h (56 + 3 * m + 1) (by omega), h (56 + 3 * m + 2) (by omega)]
/-- MEETINGS of a row, for a day -/
def MW (s : Nat → Int32) (m : Nat) : Prop := s 2 = nI m ∧ m ≤ 25 ∧ ∀ i, i < m → Rg (s (56 + 3 * i + 1)) (cl (s 0)) ∧ Rg (s (56 + 3 * i + 2)) (cl (s 0)) ∧ s (56 + 3 * i + 1) ≠ s (56 + 3 * i + 2)
theorem MW.af {s0 s : Nat → Int32} {m : Nat} (h : MW s0 m) (ha : AF s0 s) : MW s m := by
  unfold MW at h ⊢
  rw [ha 2 (by omega), ha 0 (by omega)]
  refine ⟨h.1, h.2.1, fun i hi => ?_⟩
  rw [ha (56 + 3 * i + 1) (by omega), ha (56 + 3 * i + 2) (by omega)]
  exact h.2.2 i hi
theorem lp_give {x : Nat × (Nat → Int32)} {d : Nat} {R : Nat → Nat → Option Nat} {G : zG} {I0 : Nat → Nat → Int32} {s0 : Nat → Int32} {t r n b p a m k : Nat} (hR : Rs R) (hS : Sh G) (ht6 : t < 6) (hA : RuA I0 R G) (ht : t < cl (I0 0 4)) (hn : s0 1 = nI n) (hn8 : n ≤ 8) (hm : MW s0 m) (hb : b < 1024) (hp : p < cl (s0 0)) (hp10 : p < 10) (hk : k < 1024) (ek : acc (fM s0 (nI a)) m = nI k) (hkp : k.testBit p = true) : ∀ (f i : Nat) (z : (Nat → Int32) × Int32) (I : Nat → Nat → Int32) (J : Nat → Nat → Int64), i + f = n → (RZ I0 s0 z I ∧ ∀ c, i ≤ c → c < n → b.testBit c = true → z.1 (8 + 6 * c + 1) = nI a) → zOk x (d + 5) 177 3 [.ref 51, .int (nI t), .int (nI b), .int (nI a), .int (nI p), .int (nI i)] [] (I, J, R, G) (fun v m => v = none ∧ ∃ I' J', m = (I', J', R, G) ∧ RZ I0 s0 (foL (gvC (soB I0 t) n b p) i f z) I') := by
  intro f
  induction f with
  | zero =>
    intro i z I J hi hz
    obtain ⟨hz, hH⟩ := hz
    have e1 : z.1 1 = nI n := (hz.2.2.2.1 1 (by omega)).trans hn
    have c1 : cl (z.1 1) = n := by rw [e1, cl_nI (by omega)]
    have hkr : Kr I0 I := hz.kr
    have hmz := hm.af hz.2.2.2.1
    obtain ⟨r, hr1, hru⟩ := hA.2 t ht
    refine k_iload f177_3 rfl ?_
    refine k_aload f177_5 rfl ?_
    refine k_getr (q := 62) f177_6 hS.o51 rfl hR.r51_25 ?_
    refine k_iconst (v := 1) f177_9 rfl ?_
    refine k_ia (k := 1) (w := nI n) f177_10 hS.a62 rfl (by decide) (by decide) ((congrFun hz.1 1).trans e1) ?_
    refine k_ic_ge f177_11 (fun _ => ?_) (fun h_ => absurd (nI_le (by omega) (by omega)) h_)
    exact k_vret f177_80 ⟨rfl, I, J, rfl, hz⟩
  | succ f ih =>
    intro i z I J hi hz
    obtain ⟨hz, hH⟩ := hz
    have e1 : z.1 1 = nI n := (hz.2.2.2.1 1 (by omega)).trans hn
    have c1 : cl (z.1 1) = n := by rw [e1, cl_nI (by omega)]
    have hkr : Kr I0 I := hz.kr
    have hmz := hm.af hz.2.2.2.1
    obtain ⟨r, hr1, hru⟩ := hA.2 t ht
    have hin : i < n := by omega
    have hi8 : i < 8 := by omega
    have hcn : i < cl (z.1 1) := by omega
    have cok := hz.2.2.1.2.2 i hcn
    have hf : nI t = -1 ∨ Rg (nI t) (cl (I 0 4)) := Or.inr (by rw [hkr 0 4 (by omega)]; exact Rg.of ht (by have := hA.1.2; omega))
    have hH2 : ∀ c, i + 1 ≤ c → c < n → b.testBit c = true → z.1 (8 + 6 * c + 1) = nI a := fun c h => hH c (by omega)
    by_cases hB : b.testBit i = true
    · have hHi := hH i (Nat.le_refl _) hin hB
      by_cases hV : ¬ z.1 3 - z.1 (8 + 6 * i + 2) ≤ z.1 7
      · refine k_iload f177_3 rfl ?_
        refine k_aload f177_5 rfl ?_
        refine k_getr (q := 62) f177_6 hS.o51 rfl hR.r51_25 ?_
        refine k_iconst (v := 1) f177_9 rfl ?_
        refine k_ia (k := 1) (w := nI n) f177_10 hS.a62 rfl (by decide) (by decide) ((congrFun hz.1 1).trans e1) ?_
        refine k_ic_ge f177_11 (fun h_ => absurd h_ (nI_ge hin (by omega))) (fun _ => ?_)
        refine k_iload f177_14 rfl ?_
        refine k_iload f177_15 rfl ?_
        refine e_s (as := [.int (nI i), .int (nI b)]) (rest := []) f177_17 rfl rfl rfl (s_isOf (b := b) (p := i) (by omega) (by omega)) ?_
        refine k_beq f177_20 (fun h_ => absurd (hB) h_) (fun _ => ?_)
        refine k_aload f177_23 rfl ?_
        refine k_iload f177_24 rfl ?_
        refine k_iconst (v := 1) f177_26 rfl ?_
        refine e_v (as := [.int (1), .int (nI i)]) (rest := []) f177_27 hS.o51 rfl rfl rfl (s_coinOf (c := i) (k := 1) (v := z.1 (8 + 6 * i + 1)) hR hS (by omega) (congrFun hz.1 _)) ?_
        refine k_iload f177_30 rfl ?_
        refine k_ic_ne f177_31 (fun h_ => absurd (hHi) h_) (fun _ => ?_)
        refine k_aload f177_34 rfl ?_
        refine k_iload f177_35 rfl ?_
        refine k_iload f177_37 rfl ?_
        refine k_iload f177_39 rfl ?_
        refine e_v (as := [.int (nI t), .int (nI p), .int (nI i)]) (rest := []) f177_40 hS.o51 rfl rfl rfl (bP1 (p := p) (f := nI t) (s := z.1) (c := i) hR hS hz.1 e1 hn8 hin hV) ?_
        refine k_if_le f177_43 (fun h_ => absurd h_ (by decide)) (fun _ => ?_)
        refine k_goto f177_46 ?_
        refine k_iinc (w := nI (i + 1)) (L' := [.ref 51, .int (nI t), .int (nI b), .int (nI a), .int (nI p), .int (nI (i + 1))]) f177_74 rfl (nI_1 i) rfl rfl ?_
        refine k_goto f177_77 ?_
        rw [foL_s, show gvC (soB I0 t) n b p i z = z from if_neg fun h => hV h.2.1]
        exact ih (i + 1) z _ J (by omega) ⟨hz, hH2⟩
      · by_cases h1 : soB I0 t (wP z.1 n i p) 1 = true
        · refine k_iload f177_3 rfl ?_
          refine k_aload f177_5 rfl ?_
          refine k_getr (q := 62) f177_6 hS.o51 rfl hR.r51_25 ?_
          refine k_iconst (v := 1) f177_9 rfl ?_
          refine k_ia (k := 1) (w := nI n) f177_10 hS.a62 rfl (by decide) (by decide) ((congrFun hz.1 1).trans e1) ?_
          refine k_ic_ge f177_11 (fun h_ => absurd h_ (nI_ge hin (by omega))) (fun _ => ?_)
          refine k_iload f177_14 rfl ?_
          refine k_iload f177_15 rfl ?_
          refine e_s (as := [.int (nI i), .int (nI b)]) (rest := []) f177_17 rfl rfl rfl (s_isOf (b := b) (p := i) (by omega) (by omega)) ?_
          refine k_beq f177_20 (fun h_ => absurd (hB) h_) (fun _ => ?_)
          refine k_aload f177_23 rfl ?_
          refine k_iload f177_24 rfl ?_
          refine k_iconst (v := 1) f177_26 rfl ?_
          refine e_v (as := [.int (1), .int (nI i)]) (rest := []) f177_27 hS.o51 rfl rfl rfl (s_coinOf (c := i) (k := 1) (v := z.1 (8 + 6 * i + 1)) hR hS (by omega) (congrFun hz.1 _)) ?_
          refine k_iload f177_30 rfl ?_
          refine k_ic_ne f177_31 (fun h_ => absurd (hHi) h_) (fun _ => ?_)
          refine k_aload f177_34 rfl ?_
          refine k_iload f177_35 rfl ?_
          refine k_iload f177_37 rfl ?_
          refine k_iload f177_39 rfl ?_
          refine k_callv (as := [.int (nI t), .int (nI p), .int (nI i)]) (rest := []) f177_40 hS.o51 rfl rfl rfl rfl (bP3 (f := nI t) (p := p) (s := z.1) (c := i) hR hS hz.1 e1 hn8 hin hmz.1 hmz.2.1 (fun i hi => (hmz.2.2 i hi).2.2) (by rw [hHi, fM_af hz.2.2.2.1]; exact ek) hk hp10 (hA.kr hkr) hf cok.2.1 hV hkp (by rw [baB_t I ht6, soB_kr hkr]; exact h1)) ?_
          rintro _ _ ⟨rfl, I2, J3, rfl, hI2⟩
          have hz2 := hz.sc hI2
          refine k_if_le f177_43 (fun h_ => absurd h_ (by decide)) (fun _ => ?_)
          refine k_goto f177_46 ?_
          refine k_iinc (w := nI (i + 1)) (L' := [.ref 51, .int (nI t), .int (nI b), .int (nI a), .int (nI p), .int (nI (i + 1))]) f177_74 rfl (nI_1 i) rfl rfl ?_
          refine k_goto f177_77 ?_
          rw [foL_s, show gvC (soB I0 t) n b p i z = z from if_neg fun h => h.2.2.1 h1]
          exact ih (i + 1) z _ J3 (by omega) ⟨hz2, hH2⟩
        · by_cases h0 : soB I0 t (wP z.1 n i p) 0 = true
          · refine k_iload f177_3 rfl ?_
            refine k_aload f177_5 rfl ?_
            refine k_getr (q := 62) f177_6 hS.o51 rfl hR.r51_25 ?_
            refine k_iconst (v := 1) f177_9 rfl ?_
            refine k_ia (k := 1) (w := nI n) f177_10 hS.a62 rfl (by decide) (by decide) ((congrFun hz.1 1).trans e1) ?_
            refine k_ic_ge f177_11 (fun h_ => absurd h_ (nI_ge hin (by omega))) (fun _ => ?_)
            refine k_iload f177_14 rfl ?_
            refine k_iload f177_15 rfl ?_
            refine e_s (as := [.int (nI i), .int (nI b)]) (rest := []) f177_17 rfl rfl rfl (s_isOf (b := b) (p := i) (by omega) (by omega)) ?_
            refine k_beq f177_20 (fun h_ => absurd (hB) h_) (fun _ => ?_)
            refine k_aload f177_23 rfl ?_
            refine k_iload f177_24 rfl ?_
            refine k_iconst (v := 1) f177_26 rfl ?_
            refine e_v (as := [.int (1), .int (nI i)]) (rest := []) f177_27 hS.o51 rfl rfl rfl (s_coinOf (c := i) (k := 1) (v := z.1 (8 + 6 * i + 1)) hR hS (by omega) (congrFun hz.1 _)) ?_
            refine k_iload f177_30 rfl ?_
            refine k_ic_ne f177_31 (fun h_ => absurd (hHi) h_) (fun _ => ?_)
            refine k_aload f177_34 rfl ?_
            refine k_iload f177_35 rfl ?_
            refine k_iload f177_37 rfl ?_
            refine k_iload f177_39 rfl ?_
            refine k_callv (as := [.int (nI t), .int (nI p), .int (nI i)]) (rest := []) f177_40 hS.o51 rfl rfl rfl rfl (bP0 (f := nI t) (p := p) (s := z.1) (c := i) hR hS hz.1 e1 hn8 hin hmz.1 hmz.2.1 (fun i hi => (hmz.2.2 i hi).2.2) (by rw [hHi, fM_af hz.2.2.2.1]; exact ek) hk hp10 (hA.kr hkr) hf cok.2.1 hV hkp (by rw [baB_t I ht6, soB_kr hkr]; exact h1)) ?_
            rintro _ _ ⟨rfl, I2, J3, rfl, hI2⟩
            have hz2 := hz.sc hI2
            refine k_if_le f177_43 (fun _ => ?_) (fun h_ => absurd (by decide) h_)
            refine k_aload f177_49 rfl ?_
            refine k_iload f177_50 rfl ?_
            refine k_iload f177_52 rfl ?_
            refine k_callv (as := [.int (nI p), .int (nI i)]) (rest := []) f177_54 hS.o51 rfl rfl rfl rfl (r_pay (c := i) (p := p) hR hS hz2.1 e1 hn8 hin cok.2.1 hp10) ?_
            rintro _ _ ⟨rfl, J4, rfl, hJ4⟩
            refine k_aload f177_57 rfl ?_
            refine k_iload f177_58 rfl ?_
            refine k_iconst (v := 0) f177_59 rfl ?_
            refine k_callv (as := [.int (0), .int (nI t)]) (rest := []) f177_60 hS.o51 rfl rfl rfl rfl (q_isSo (kd := 0) (w := wP z.1 n i p) hR hS ht6 hz2.kr hru (by decide) hJ4) ?_
            rintro _ _ ⟨rfl, I3, J5, rfl, hI3, hJ5⟩
            have hz3 := hz2.sc hI3
            refine k_beq f177_63 (fun h_ => absurd (h0) h_) (fun _ => ?_)
            refine k_aload f177_66 rfl ?_
            refine k_iload f177_67 rfl ?_
            refine k_iload f177_69 rfl ?_
            refine e_v (as := [.int (nI p), .int (nI i)]) (rest := []) f177_71 hS.o51 rfl rfl rfl (s_pays (c := i) (h := cl (z.1 (8 + 6 * i + 3))) (p := p) hR hS hi8 ((congrFun hz3.1 _).trans cok.2.1.1) cok.2.1.2 hp10) ?_
            refine k_iinc (w := nI (i + 1)) (L' := [.ref 51, .int (nI t), .int (nI b), .int (nI a), .int (nI p), .int (nI (i + 1))]) f177_74 rfl (nI_1 i) rfl rfl ?_
            refine k_goto f177_77 ?_
            rw [foL_s, show gvC (soB I0 t) n b p i z = (payR z.1 i p, z.2 + 1) from if_pos ⟨hB, Classical.not_not.mp hV, h1, h0⟩]
            exact ih (i + 1) (payR z.1 i p, z.2 + 1) _ J5 (by omega) ⟨hz3.pay hcn (by rw [hz.2.2.2.1 0 (by omega)]; exact hp), fun c hc h h2 => (payR_o z.1 (by omega)).trans (hH2 c hc h h2)⟩
          · refine k_iload f177_3 rfl ?_
            refine k_aload f177_5 rfl ?_
            refine k_getr (q := 62) f177_6 hS.o51 rfl hR.r51_25 ?_
            refine k_iconst (v := 1) f177_9 rfl ?_
            refine k_ia (k := 1) (w := nI n) f177_10 hS.a62 rfl (by decide) (by decide) ((congrFun hz.1 1).trans e1) ?_
            refine k_ic_ge f177_11 (fun h_ => absurd h_ (nI_ge hin (by omega))) (fun _ => ?_)
            refine k_iload f177_14 rfl ?_
            refine k_iload f177_15 rfl ?_
            refine e_s (as := [.int (nI i), .int (nI b)]) (rest := []) f177_17 rfl rfl rfl (s_isOf (b := b) (p := i) (by omega) (by omega)) ?_
            refine k_beq f177_20 (fun h_ => absurd (hB) h_) (fun _ => ?_)
            refine k_aload f177_23 rfl ?_
            refine k_iload f177_24 rfl ?_
            refine k_iconst (v := 1) f177_26 rfl ?_
            refine e_v (as := [.int (1), .int (nI i)]) (rest := []) f177_27 hS.o51 rfl rfl rfl (s_coinOf (c := i) (k := 1) (v := z.1 (8 + 6 * i + 1)) hR hS (by omega) (congrFun hz.1 _)) ?_
            refine k_iload f177_30 rfl ?_
            refine k_ic_ne f177_31 (fun h_ => absurd (hHi) h_) (fun _ => ?_)
            refine k_aload f177_34 rfl ?_
            refine k_iload f177_35 rfl ?_
            refine k_iload f177_37 rfl ?_
            refine k_iload f177_39 rfl ?_
            refine k_callv (as := [.int (nI t), .int (nI p), .int (nI i)]) (rest := []) f177_40 hS.o51 rfl rfl rfl rfl (bP0 (f := nI t) (p := p) (s := z.1) (c := i) hR hS hz.1 e1 hn8 hin hmz.1 hmz.2.1 (fun i hi => (hmz.2.2 i hi).2.2) (by rw [hHi, fM_af hz.2.2.2.1]; exact ek) hk hp10 (hA.kr hkr) hf cok.2.1 hV hkp (by rw [baB_t I ht6, soB_kr hkr]; exact h1)) ?_
            rintro _ _ ⟨rfl, I2, J3, rfl, hI2⟩
            have hz2 := hz.sc hI2
            refine k_if_le f177_43 (fun _ => ?_) (fun h_ => absurd (by decide) h_)
            refine k_aload f177_49 rfl ?_
            refine k_iload f177_50 rfl ?_
            refine k_iload f177_52 rfl ?_
            refine k_callv (as := [.int (nI p), .int (nI i)]) (rest := []) f177_54 hS.o51 rfl rfl rfl rfl (r_pay (c := i) (p := p) hR hS hz2.1 e1 hn8 hin cok.2.1 hp10) ?_
            rintro _ _ ⟨rfl, J4, rfl, hJ4⟩
            refine k_aload f177_57 rfl ?_
            refine k_iload f177_58 rfl ?_
            refine k_iconst (v := 0) f177_59 rfl ?_
            refine k_callv (as := [.int (0), .int (nI t)]) (rest := []) f177_60 hS.o51 rfl rfl rfl rfl (q_isSo (kd := 0) (w := wP z.1 n i p) hR hS ht6 hz2.kr hru (by decide) hJ4) ?_
            rintro _ _ ⟨rfl, I3, J5, rfl, hI3, hJ5⟩
            have hz3 := hz2.sc hI3
            refine k_beq f177_63 (fun _ => ?_) (fun h_ => (absurd h_ (h0)))
            refine k_iinc (w := nI (i + 1)) (L' := [.ref 51, .int (nI t), .int (nI b), .int (nI a), .int (nI p), .int (nI (i + 1))]) f177_74 rfl (nI_1 i) rfl rfl ?_
            refine k_goto f177_77 ?_
            rw [foL_s, show gvC (soB I0 t) n b p i z = z from if_neg fun h => h0 h.2.2.2]
            exact ih (i + 1) z _ J5 (by omega) ⟨hz3, hH2⟩
    · refine k_iload f177_3 rfl ?_
      refine k_aload f177_5 rfl ?_
      refine k_getr (q := 62) f177_6 hS.o51 rfl hR.r51_25 ?_
      refine k_iconst (v := 1) f177_9 rfl ?_
      refine k_ia (k := 1) (w := nI n) f177_10 hS.a62 rfl (by decide) (by decide) ((congrFun hz.1 1).trans e1) ?_
      refine k_ic_ge f177_11 (fun h_ => absurd h_ (nI_ge hin (by omega))) (fun _ => ?_)
      refine k_iload f177_14 rfl ?_
      refine k_iload f177_15 rfl ?_
      refine e_s (as := [.int (nI i), .int (nI b)]) (rest := []) f177_17 rfl rfl rfl (s_isOf (b := b) (p := i) (by omega) (by omega)) ?_
      refine k_beq f177_20 (fun _ => ?_) (fun h_ => (absurd h_ (hB)))
      refine k_iinc (w := nI (i + 1)) (L' := [.ref 51, .int (nI t), .int (nI b), .int (nI a), .int (nI p), .int (nI (i + 1))]) f177_74 rfl (nI_1 i) rfl rfl ?_
      refine k_goto f177_77 ?_
      rw [foL_s, show gvC (soB I0 t) n b p i z = z from if_neg fun h => hB h.1]
      exact ih (i + 1) z _ J (by omega) ⟨hz, hH2⟩
theorem q_give {x : Nat × (Nat → Int32)} {d : Nat} {R : Nat → Nat → Option Nat} {G : zG} {I0 : Nat → Nat → Int32} {s0 : Nat → Int32} {I : Nat → Nat → Int32} {J : Nat → Nat → Int64} {z : (Nat → Int32) × Int32} {t n b p a m k : Nat} (hR : Rs R) (hS : Sh G) (ht6 : t < 6) (hA : RuA I0 R G) (ht : t < cl (I0 0 4)) (hn : s0 1 = nI n) (hn8 : n ≤ 8) (hm : MW s0 m) (hb : b < 1024) (hp : p < cl (s0 0)) (hp10 : p < 10) (hk : k < 1024) (ek : acc (fM s0 (nI a)) m = nI k) (hkp : k.testBit p = true) (hz : RZ I0 s0 z I) (hH : ∀ c, c < n → b.testBit c = true → z.1 (8 + 6 * c + 1) = nI a) : zOk x (d + 5) 177 0 [.ref 51, .int (nI t), .int (nI b), .int (nI a), .int (nI p), zU] [] (I, J, R, G) (fun v m => v = none ∧ ∃ I' J', m = (I', J', R, G) ∧ RZ I0 s0 (foL (gvC (soB I0 t) n b p) 0 n z) I') := by
  refine k_iconst (v := 0) f177_0 rfl ?_
  refine k_istore (L' := [.ref 51, .int (nI t), .int (nI b), .int (nI a), .int (nI p), .int (0)]) f177_1 rfl rfl ?_
  exact lp_give (r := 0) hR hS ht6 hA ht hn hn8 hm hb hp hp10 hk ek hkp n 0 z I J (by omega) ⟨hz, fun c _ => hH c⟩
