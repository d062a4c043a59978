/-! DAYS that go by. -/
def AE (s0 s : Nat → Int32) : Prop := ∀ i, (i < 8 ∧ i ≠ 3 ∧ i ≠ 4) ∨ 56 ≤ i → s i = s0 i
theorem AE.rfl {s : Nat → Int32} : AE s s := fun _ _ => Eq.refl _
theorem AE.trans {s0 s1 s2 : Nat → Int32} (h : AE s0 s1) (g : AE s1 s2) : AE s0 s2 := fun i hi => (g i hi).trans (h i hi)
theorem AE.of {s0 s : Nat → Int32} {v : Int32} (h : AF (fu s0 3 v) s) : AE s0 s := fun i hi => (h i (by omega)).trans (fu_no _ _ (by omega))
theorem CZ.re {I0 I : Nat → Nat → Int32} {R : Nat → Nat → Option Nat} {G : zG} {st pl : Nat} {s0 : Nat → Int32} {z : (Nat → Int32) × Int32} (h : CZ I0 R G st pl s0 z I) : CZ I0 R G st pl z.1 z I := ⟨h.1, h.2.1, h.2.2.1, AF.rfl, h.2.2.2.2⟩
theorem RZ.re {I0 I : Nat → Nat → Int32} {s0 : Nat → Int32} {z : (Nat → Int32) × Int32} (h : RZ I0 s0 z I) : RZ I0 z.1 z I := ⟨h.1, h.2.1, h.2.2.1, AF.rfl, h.2.2.2.2⟩
theorem MW.ae {s0 s : Nat → Int32} {m : Nat} (h : MW s0 m) (ha : AE s0 s) : MW s m := by
  unfold MW at h ⊢
  rw [ha 2 (by omega), ha 0 (by omega)]
  refine ⟨h.1, h.2.1, fun i hi => ?_⟩
  rw [ha (56 + 3 * i + 1) (by omega), ha (56 + 3 * i + 2) (by omega)]
  exact h.2.2 i hi
theorem cap_lt {k : Nat} (h : k < 19999) : capC (nI k) = nI k + 1 ∧ nI k + 1 = nI (k + 1) := by
  have e : nI k + 1 = nI (k + 1) := nI_1 k
  refine ⟨?_, e⟩
  unfold capC
  rw [e, if_neg]
  exact nI_nlt (a := 19999) (b := k + 1) (by omega) (by omega)
theorem dn_3 (v : Int32) (z : (Nat → Int32) × Int32) : (dnC v z).1 3 = v := fu_same z.1 3 v
theorem dC_3 (so : (Nat → Int64) → Nat → Bool) (n m a b : Nat) (z : (Nat → Int32) × Int32) : (dC so n m a b z).1 3 = capC (z.1 3) := by
  unfold dC
  rw [dn_3]
theorem dD_3 (so : (Nat → Int64) → Nat → Bool) (n m : Nat) (z : (Nat → Int32) × Int32) : (dD so n m z).1 3 = z.1 3 + 1 := by
  unfold dD
  rw [dn_3]
theorem days_x {so : (Nat → Int64) → Nat → Bool} {m n : Nat} {e : Int32} (hn : n ≤ 8) : ∀ (D i k : Nat) (z z' : (Nat → Int32) × Int32), k + D ≤ 19999 → z.1 3 = nI k → AZ m e z z' → AZ m e (foL (fun _ => dC so n m 0 0) i D z) (foL (fun _ => dD so n m) i D z') ∧ (foL (fun _ => dC so n m 0 0) i D z).1 3 = nI (k + D) := by
  intro D
  induction D with
  | zero => intro i k z z' _ h3 h; exact ⟨h, h3⟩
  | succ D ih =>
    intro i k z z' hk h3 h
    rw [foL_s, foL_s]
    obtain ⟨c1, c2⟩ := cap_lt (k := k) (by omega)
    have g := day_az (so := so) h hn (by rw [h3]; exact c1)
    have := ih (i + 1) (k + 1) _ _ (by omega) (by rw [dC_3, h3, c1, c2]) g
    rw [show k + 1 + D = k + (D + 1) by omega] at this
    exact this
theorem dC_ae {so : (Nat → Int64) → Nat → Bool} {n m : Nat} (hn : n ≤ 8) : ∀ (D i : Nat) (z : (Nat → Int32) × Int32), AE z.1 (foL (fun _ => dC so n m 0 0) i D z).1 := by
  intro D
  induction D with
  | zero => intro i z; exact AE.rfl
  | succ D ih =>
    intro i z
    rw [foL_s]
    exact AE.trans (AE.of (dC_af hn AF.rfl)) (ih _ _)
theorem dD_ae {so : (Nat → Int64) → Nat → Bool} {n m : Nat} (hn : n ≤ 8) : ∀ (D i : Nat) (z : (Nat → Int32) × Int32), AE z.1 (foL (fun _ => dD so n m) i D z).1 := by
  intro D
  induction D with
  | zero => intro i z; exact AE.rfl
  | succ D ih =>
    intro i z
    rw [foL_s]
    exact AE.trans (AE.of (dD_af hn AF.rfl)) (ih _ _)
/-! a TOWN's row stays one -/
theorem gv_so {so : (Nat → Int64) → Nat → Bool} {n b p rn : Nat} (hp : p < 10) : Inn (fun z => SOk z.1 rn ∧ z.1 1 = nI n ∧ cl (z.1 3) ≤ 1999 ∧ p < cl (z.1 0) ∧ n ≤ 8) (gvC so n b p) n := by
  intro i z hi h
  obtain ⟨h1, h2, h3, h4, h5⟩ := h
  have hc : i < cl (z.1 1) := by rw [h2, cl_nI (by omega)]; exact hi
  have e0 : payR z.1 i p 0 = z.1 0 := payR_o _ (by omega)
  have e1 : payR z.1 i p 1 = z.1 1 := payR_o _ (by omega)
  have e3 : payR z.1 i p 3 = z.1 3 := payR_o _ (by omega)
  unfold gvC
  split
  · exact ⟨h1.pay hc h4 h3, e1.trans h2, by show cl (payR z.1 i p 3) ≤ 1999; rw [e3]; exact h3, by show p < cl (payR z.1 i p 0); rw [e0]; exact h4, h5⟩
  · exact ⟨h1, h2, h3, h4, h5⟩
theorem mt_so {so : (Nat → Int64) → Nat → Bool} {n a b rn : Nat} {z : (Nat → Int32) × Int32} (hn : n ≤ 8) (h1 : SOk z.1 rn) (h2 : z.1 1 = nI n) (h3 : cl (z.1 3) ≤ 1999) (ha : a < cl (z.1 0)) (hb : b < cl (z.1 0)) : SOk (mtC so n a b z).1 rn := by
  have h11 := h1.1.2
  unfold mtC
  have g := fo_inn (gv_so (so := so) (n := n) (b := cl (acc (fH z.1 (nI a)) n)) (p := b) (rn := rn) (by omega)) n 0 z (by omega) ⟨h1, h2, h3, hb, hn⟩
  have e := mt_af (so := so) (n := n) (a := a) (b := b) (z := z) hn AF.rfl
  have g0 := fo_inn (P := fun y => AF z.1 y.1) (gv_af (so := so) (n := n) (b := cl (acc (fH z.1 (nI a)) n)) (p := b) (N := n) hn) n 0 z (by omega) AF.rfl
  exact (fo_inn (gv_so (so := so) (n := n) (b := cl (acc (fH z.1 (nI b)) n)) (p := a) (rn := rn) (by omega)) n 0 _ (by omega) ⟨g.1, g.2.1, g.2.2.1, by rw [g0 0 (by omega)]; exact ha, hn⟩).1
theorem dy_so {so : (Nat → Int64) → Nat → Bool} {n m rn : Nat} (hn : n ≤ 8) : Inn (fun z => SOk z.1 rn ∧ z.1 1 = nI n ∧ cl (z.1 2) = m) (dyC so n) m := by
  intro i z hi h
  obtain ⟨h1, h2, h3⟩ := h
  unfold dyC
  split
  · rename_i hT
    have mo := h1.2.2.2.2.2.2.2.2 i (by omega)
    have a := mt_af (so := so) (n := n) (a := cl (z.1 (56 + 3 * i + 1))) (b := cl (z.1 (56 + 3 * i + 2))) (z := z) hn AF.rfl
    exact ⟨mt_so hn h1 h2 (by rw [← hT]; have := mo.1.2; omega) mo.2.1.2 mo.2.2.1.2, (a 1 (by omega)).trans h2, by rw [a 2 (by omega)]; exact h3⟩
  · exact ⟨h1, h2, h3⟩
theorem hm_so {so : (Nat → Int64) → Nat → Bool} {n rn : Nat} (hn : n ≤ 8) : Inn (fun z => SOk z.1 rn ∧ z.1 1 = nI n) (hmC so n) n := by
  intro i z hi h
  obtain ⟨h1, h2⟩ := h
  have hc : i < cl (z.1 1) := by rw [h2, cl_nI (by omega)]; exact hi
  unfold hmC
  split
  · rename_i g
    have e1 : homR z.1 i 1 = z.1 1 := homR_o _ (by omega) (by omega)
    exact ⟨h1.hom hc g.2.1 (rg2_1 (h1.2.2.2.2.2.2.2.1 i hc).2.2.2.2.1 g.1), e1.trans h2⟩
  · exact ⟨h1, h2⟩
theorem dC_so {so : (Nat → Int64) → Nat → Bool} {n m rn k : Nat} {z : (Nat → Int32) × Int32} (hn : n ≤ 8) (h1 : SOk z.1 rn) (h2 : z.1 1 = nI n) (h3 : cl (z.1 2) = m) (hk : z.1 3 = nI k) (hk2 : k < 19999) : SOk (dC so n m 0 0 z).1 rn := by
  unfold dC drC
  rw [if_pos rfl]
  have g := fo_inn (dy_so (so := so) (rn := rn) hn) m 0 z (by omega) ⟨h1, h2, h3⟩
  have g2 := fo_inn (hm_so (so := so) (rn := rn) hn) n 0 _ (by omega) ⟨g.1, g.2.1⟩
  have a := fo_inn (P := fun y => AF z.1 y.1) (dy_af (so := so) (N := m) hn) m 0 z (by omega) AF.rfl
  have a2 := fo_inn (P := fun y => AF z.1 y.1) (hm_af (so := so) (n := n) (N := n) hn) n 0 _ (by omega) a
  have e3 := a2 3 (by omega)
  obtain ⟨c1, c2⟩ := cap_lt hk2
  rw [hk, c1, c2]
  refine so_3 g2.1 (Rg.of (by omega) (by omega)) ?_
  rw [e3, hk, cl_nI (by omega), cl_nI (by omega)]
  omega
theorem days_so {so : (Nat → Int64) → Nat → Bool} {n m rn : Nat} (hn : n ≤ 8) : ∀ (D i k : Nat) (z : (Nat → Int32) × Int32), SOk z.1 rn → z.1 1 = nI n → cl (z.1 2) = m → z.1 3 = nI k → k + D ≤ 19999 → SOk (foL (fun _ => dC so n m 0 0) i D z).1 rn := by
  intro D
  induction D with
  | zero => intro i k z h _ _ _ _; exact h
  | succ D ih =>
    intro i k z h1 h2 h3 hk hd
    rw [foL_s]
    obtain ⟨c1, c2⟩ := cap_lt (k := k) (by omega)
    have a := AE.of (dC_af (so := so) (n := n) (m := m) (a := 0) (b := 0) (z := z) hn AF.rfl)
    exact ih (i + 1) (k + 1) _ (dC_so hn h1 h2 h3 hk (by omega)) ((a 1 (by omega)).trans h2) (by rw [a 2 (by omega)]; exact h3) (by rw [dC_3, hk, c1, c2]) (by omega)
theorem lp_goBy0 {x : Nat × (Nat → Int32)} {d : Nat} {R : Nat → Nat → Option Nat} {G : zG} {I0 : Nat → Nat → Int32} {st pl t r n m D : Nat} {P : Int32} (hR : Rs R) (hS : Sh G) (hst2 : st = 17 ∨ st = 27) (hru : RuR I0 R G t r) (hn8 : n ≤ 8) (hm24 : m ≤ 24) (hP : ¬ P ≤ 0) (hD : D ≤ 400) : ∀ (f i : Nat) (z : (Nat → Int32) × Int32) (I : Nat → Nat → Int32) (J : Nat → Nat → Int64) (u7 u8 : Value), i + f = D → (CZ I0 R G st pl z.1 z I ∧ z.1 1 = nI n ∧ MW z.1 m ∧ z.1 0 = P) → zOk x (d + 6) 14 17 [.ref 42, .ref st, .ref r, .int (nI D), .int (0), .int (P), .int (nI i), u7, u8] [] (I, J, R, G) (fun v mm => v = some (.int (foL (fun _ => dC (soB I0 t) n m 0 0) i f z).2) ∧ ∃ I' J', mm = (I', J', R, G) ∧ CZ I0 R G st pl (foL (fun _ => dC (soB I0 t) n m 0 0) i f z).1 (foL (fun _ => dC (soB I0 t) n m 0 0) i f z) I') := by
  intro f
  induction f with
  | zero =>
    intro i z I J u7 u8 hi hz
    obtain ⟨hz, hn, hmw, h0⟩ := hz
    have hst : StR I R G st pl z.1 := hz.1
    refine k_iload f14_17 rfl ?_
    refine k_iload f14_19 rfl ?_
    refine k_ic_ge f14_20 (fun _ => ?_) (fun h_ => absurd (nI_le (by omega) (by omega)) h_)
    refine k_aload f14_80 rfl ?_
    refine k_gI (w := z.2) f14_81 hS.o42 rfl hz.2.1 ?_
    exact k_iret f14_84 rfl ⟨rfl, I, J, rfl, hz⟩
  | succ f ih =>
    intro i z I J u7 u8 hi hz
    obtain ⟨hz, hn, hmw, h0⟩ := hz
    have hst : StR I R G st pl z.1 := hz.1
    have hin : i < D := by omega
    have hm25 : cl (z.1 2) ≤ 25 := by rw [hmw.1, cl_nI (by omega)]; omega
    refine k_iload f14_17 rfl ?_
    refine k_iload f14_19 rfl ?_
    refine k_ic_ge f14_20 (fun h_ => absurd h_ (nI_ge hin (by omega))) (fun _ => ?_)
    refine k_iload f14_23 rfl ?_
    refine k_if_le f14_25 (fun h_ => absurd h_ (hP)) (fun _ => ?_)
    refine k_iload f14_28 rfl ?_
    refine k_if_eq f14_30 (fun _ => ?_) (fun h_ => absurd (by decide) h_)
    refine k_iconst (v := 0) f14_43 rfl ?_
    refine k_istore (L' := [.ref 42, .ref st, .ref r, .int (nI D), .int (0), .int (P), .int (nI i), .int (0), u8]) f14_44 rfl rfl ?_
    refine k_iload f14_46 rfl ?_
    refine k_if_eq f14_48 (fun _ => ?_) (fun h_ => absurd (by decide) h_)
    refine k_iconst (v := 0) f14_61 rfl ?_
    refine k_istore (L' := [.ref 42, .ref st, .ref r, .int (nI D), .int (0), .int (P), .int (nI i), .int (0), .int (0)]) f14_62 rfl rfl ?_
    refine k_aload f14_64 rfl ?_
    refine k_aload f14_65 rfl ?_
    refine k_aload f14_66 rfl ?_
    refine k_iload f14_67 rfl ?_
    refine k_iload f14_69 rfl ?_
    refine k_callv (as := [.int (0), .int (0), .ref r, .ref st]) (rest := []) f14_71 hS.o42 rfl rfl rfl rfl (q_passDay (a := 0) (b := 0) hR hS hst2 hru hn hn8 hm25 (by omega) (by omega) (fun h => absurd rfl h) hmw hm24 hz) ?_
    rintro _ _ ⟨rfl, I1, J1, rfl, hz1⟩
    refine k_iinc (w := nI (i + 1)) (L' := [.ref 42, .ref st, .ref r, .int (nI D), .int (0), .int (P), .int (nI (i + 1)), .int (0), .int (0)]) f14_74 rfl (nI_1 i) rfl rfl ?_
    refine k_goto f14_77 ?_
    rw [foL_s]
    have ae : AE z.1 (dC (soB I0 t) n m 0 0 z).1 := AE.of hz1.2.2.2.1
    exact ih (i + 1) _ I1 J1 _ _ (by omega) ⟨hz1.re, (ae 1 (by omega)).trans hn, hmw.ae ae, (ae 0 (by omega)).trans h0⟩
theorem q_goBy0 {x : Nat × (Nat → Int32)} {d : Nat} {R : Nat → Nat → Option Nat} {G : zG} {I0 : Nat → Nat → Int32} {I : Nat → Nat → Int32} {J : Nat → Nat → Int64} {z : (Nat → Int32) × Int32} {st pl t r n m D : Nat} {P : Int32} (hR : Rs R) (hS : Sh G) (hst2 : st = 17 ∨ st = 27) (hru : RuR I0 R G t r) (hn8 : n ≤ 8) (hm24 : m ≤ 24) (hP : ¬ P ≤ 0) (hD : D ≤ 400) (hz : CZ I0 R G st pl z.1 z I) (hn : z.1 1 = nI n) (hmw : MW z.1 m) (h0 : z.1 0 = P) : zOk x (d + 6) 14 0 [.ref 42, .ref st, .ref r, .int (nI D), .int (0), zU, zU, zU, zU] [] (I, J, R, G) (fun v mm => v = some (.int (foL (fun _ => dC (soB I0 t) n m 0 0) 0 D (z.1, 0)).2) ∧ ∃ I' J', mm = (I', J', R, G) ∧ CZ I0 R G st pl (foL (fun _ => dC (soB I0 t) n m 0 0) 0 D (z.1, 0)).1 (foL (fun _ => dC (soB I0 t) n m 0 0) 0 D (z.1, 0)) I') := by
  have hst := hz.1
  have hpl := hst.2.2.1.1
  refine k_aload f14_0 rfl ?_
  refine k_iconst (v := 0) f14_1 rfl ?_
  refine k_putI f14_2 hS.o42 rfl ?_
  refine k_aload f14_5 rfl ?_
  refine k_getr (q := pl) f14_6 hst.1.1 rfl hst.2.1 ?_
  refine k_gI (w := P) f14_9 hst.2.2.1.2.1 rfl (Eq.trans (z_u_p _ _ _ _ (by omega)) (hst.2.2.2.1.1.trans h0)) ?_
  refine k_istore (L' := [.ref 42, .ref st, .ref r, .int (nI D), .int (0), .int (P), zU, zU, zU]) f14_12 rfl rfl ?_
  refine k_iconst (v := 0) f14_14 rfl ?_
  refine k_istore (L' := [.ref 42, .ref st, .ref r, .int (nI D), .int (0), .int (P), .int (0), zU, zU]) f14_15 rfl rfl ?_
  exact lp_goBy0 hR hS hst2 hru hn8 hm24 hP hD D 0 (z.1, 0) _ J _ _ (by omega) ⟨⟨hz.1.keep (Nat.le_of_lt_succ hz.2.2.1.2.1.2) Gk.rfl (fun p k _ hp => z_u_p _ _ _ _ (by omega)) (fun _ _ _ _ => rfl), z_u_same _ _ _ _, hz.2.2.1, AF.rfl, fun p k g1 g2 => (z_u_no _ _ g2).trans (hz.2.2.2.2 p k g1 g2)⟩, hn, hmw, h0⟩
theorem lp_run {x : Nat × (Nat → Int32)} {d : Nat} {R : Nat → Nat → Option Nat} {G : zG} {I0 : Nat → Nat → Int32} {t n m D : Nat} (hR : Rs R) (hS : Sh G) (ht6 : t < 6) (hA : RuA I0 R G) (ht : t < cl (I0 0 4)) (hn8 : n ≤ 8) (hD : D ≤ 400) : ∀ (f i : Nat) (z : (Nat → Int32) × Int32) (I : Nat → Nat → Int32) (J : Nat → Nat → Int64), i + f = D → (RZ I0 z.1 z I ∧ z.1 1 = nI n ∧ MW z.1 m) → zOk x (d + 7) 179 47 [.ref 51, .int (nI t), .int (nI D), .int (nI i)] [] (I, J, R, G) (fun v mm => v = some (.int ((foL (fun _ => dD (soB I0 t) n m) i f z).1 3)) ∧ ∃ I' J', mm = (I', J', R, G) ∧ RZ I0 (foL (fun _ => dD (soB I0 t) n m) i f z).1 (foL (fun _ => dD (soB I0 t) n m) i f z) I') := by
  intro f
  induction f with
  | zero =>
    intro i z I J hi hz
    obtain ⟨hz, hn, hmw⟩ := hz
    refine k_iload f179_47 rfl ?_
    refine k_iload f179_48 rfl ?_
    refine k_ic_ge f179_49 (fun _ => ?_) (fun h_ => absurd (nI_le (by omega) (by omega)) h_)
    refine k_aload f179_63 rfl ?_
    refine k_getr (q := 62) f179_64 hS.o51 rfl hR.r51_25 ?_
    refine k_iconst (v := 3) f179_67 rfl ?_
    refine k_ia (k := 3) (w := z.1 3) f179_68 hS.a62 rfl (by decide) (by decide) (congrFun hz.1 3) ?_
    exact k_iret f179_69 rfl ⟨rfl, I, J, rfl, hz⟩
  | succ f ih =>
    intro i z I J hi hz
    obtain ⟨hz, hn, hmw⟩ := hz
    have hin : i < D := by omega
    refine k_iload f179_47 rfl ?_
    refine k_iload f179_48 rfl ?_
    refine k_ic_ge f179_49 (fun h_ => absurd h_ (nI_ge hin (by omega))) (fun _ => ?_)
    refine k_aload f179_52 rfl ?_
    refine k_iload f179_53 rfl ?_
    refine k_callv (as := [.int (nI t)]) (rest := []) f179_54 hS.o51 rfl rfl rfl rfl (q_passes hR hS ht6 hA ht hn hn8 hmw hz) ?_
    rintro _ _ ⟨rfl, I1, J1, rfl, hz1⟩
    refine k_iinc (w := nI (i + 1)) (L' := [.ref 51, .int (nI t), .int (nI D), .int (nI (i + 1))]) f179_57 rfl (nI_1 i) rfl rfl ?_
    refine k_goto f179_60 ?_
    rw [foL_s]
    have ae : AE z.1 (dD (soB I0 t) n m z).1 := AE.of hz1.2.2.2.1
    exact ih (i + 1) _ I1 J1 (by omega) ⟨hz1.re, (ae 1 (by omega)).trans hn, hmw.ae ae⟩
