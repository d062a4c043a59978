/-! DRAWS. -/
theorem lN_and (a b : Nat) : lN a &&& lN b = lN (a &&& b) := by
  apply Int64.toBitVec_inj.mp
  rw [Int64.toBitVec_and]
  simp only [lN, Int64.toBitVec_ofNat', BitVec.ofNat_and]
def nx (X : Nat) : Nat := (X * 1103515245 + 12345) % 2147483648
theorem nx_lt (X : Nat) : nx X < 2147483648 := Nat.mod_lt _ (by decide)
theorem nx_lin {X : Nat} (h : X < 2147483648) : X * 1103515245 + 12345 < 2 ^ 62 := by omega
theorem nx_c {X : Nat} (h : X < 2147483648) : ((nI X).toInt64 * 1103515245 + 12345 &&& 2147483647).toInt32 = nI (nx X) := by
  have l := nx_lin h
  rw [nI_l (by omega), show (1103515245 : Int64) = lN 1103515245 from rfl, lN_mul, show (12345 : Int64) = lN 12345 from rfl, lN_add, show (2147483647 : Int64) = lN (2 ^ 31 - 1) from rfl, lN_and, Nat.and_two_pow_sub_one_eq_mod, lN_i, nx]
theorem nx_d {X : Nat} (h : X < 2147483648) : (lN X * 1103515245 + 12345) - (lN X * 1103515245 + 12345) / 2147483648 * 2147483648 = lN (nx X) := by
  have l := nx_lin h
  rw [show (1103515245 : Int64) = lN 1103515245 from rfl, lN_mul, show (12345 : Int64) = lN 12345 from rfl, lN_add, show (2147483648 : Int64) = lN 2147483648 from rfl, pk_lRem (by omega) (by omega) (by omega), nx]
theorem dr_c {X P : Nat} (h : X < 2147483648) (h0 : 0 < P) (hP : P < 11) : (nI X / 65536) - (nI X / 65536) / nI P * nI P = nI (X / 65536 % P) := by
  rw [show (65536 : Int32) = nI 65536 from rfl, pk_div (by omega) (by omega) (by omega), pk_rem (by omega) h0 (by omega)]
theorem dr_d {X P : Nat} (h : X < 2147483648) (h0 : 0 < P) (hP : P < 11) : ((lN X / 65536) - (lN X / 65536) / (nI P).toInt64 * (nI P).toInt64).toInt32 = nI (X / 65536 % P) := by
  rw [nI_l (by omega), show (65536 : Int64) = lN 65536 from rfl, pk_lDiv (by omega) (by omega) (by omega), pk_lRem (by omega) h0 (by omega), lN_i]
def d1 (P X : Nat) : Nat := nx X / 65536 % P
def d2 (P X : Nat) : Nat := nx (nx X) / 65536 % P
theorem d1_lt {P X : Nat} (h : 0 < P) : d1 P X < P := Nat.mod_lt _ h
theorem d2_lt {P X : Nat} (h : 0 < P) : d2 P X < P := Nat.mod_lt _ h
/-- a day with a drawn meeting, as the class has it -/
def yC (so : (Nat → Int64) → Nat → Bool) (n m P : Nat) (y : Nat × ((Nat → Int32) × Int32)) : Nat × ((Nat → Int32) × Int32) := (nx (nx y.1), dC so n m (d1 P y.1) (d2 P y.1) (fu y.2.1 5 (nI (nx (nx y.1))), y.2.2))
theorem SW.x {s : Nat → Int32} {v : Int32} (h : SW s) : SW (fu s 5 v) := by
  have n : ∀ j, j ≠ 5 → fu s 5 v j = s j := fun j hj => fu_no _ _ hj
  refine ⟨by rw [n 0 (by omega)]; exact h.1, by rw [n 1 (by omega)]; exact h.2.1, fun c hc => ?_⟩
  rw [n 1 (by omega)] at hc
  exact (h.2.2 c hc).cg (n 0 (by omega)) fun k _ => n _ (by omega)
theorem CZ.x {I0 I : Nat → Nat → Int32} {R : Nat → Nat → Option Nat} {G : zG} {st pl : Nat} {z : (Nat → Int32) × Int32} (v : Int32) (h : CZ I0 R G st pl z.1 z I) (hs : st = 17 ∨ st = 27) (hm : cl (z.1 2) ≤ 25) : CZ I0 R G st pl (fu z.1 5 v) (fu z.1 5 v, z.2) (z_u I st 4 v) := by
  obtain ⟨h1, h2, h3, h4, h5⟩ := h
  have b1 := h3.2.1.2
  have hpl := h1.2.2.1.1
  refine ⟨h1.up v (by omega) (by omega) (by unfold plc; omega) hm, (z_u_p _ _ _ _ (by omega)).trans h2, h3.x, AF.rfl, fun q k g1 g2 => ?_⟩
  rw [z_u_p _ _ _ _ (by omega)]
  exact h5 q k g1 g2
theorem MW.x {s : Nat → Int32} {m : Nat} {v : Int32} (h : MW s m) : MW (fu s 5 v) m := by
  have n : ∀ j, j ≠ 5 → fu s 5 v j = s j := fun j hj => fu_no _ _ hj
  unfold MW at h ⊢
  rw [n 2 (by omega), n 0 (by omega)]
  refine ⟨h.1, h.2.1, fun i hi => ?_⟩
  rw [n _ (by omega), n _ (by omega)]
  exact h.2.2 i hi
theorem s_draw {x : Nat × (Nat → Int32)} {d : Nat} {I : Nat → Nat → Int32} {J : Nat → Nat → Int64} {R : Nat → Nat → Option Nat} {G : zG} {st X : Nat} (hst : zo G st 6) (h4 : I st 4 = nI X) (hX : X < 2147483648) : zRn x d 45 [.ref st] (I, J, R, G) (some (.int (nI (nx X) / 65536))) (z_u I st 4 (nI (nx X)), J, R, G) := by
  show zOk x d 45 0 [.ref st] [] _ _
  refine k_aload f45_0 rfl ?_
  refine k_aload f45_1 rfl ?_
  refine k_gI (w := nI X) f45_2 hst rfl h4 ?_
  refine k_i2l f45_5 ?_
  refine k_lconst (v := 1103515245) f45_6 rfl ?_
  refine k_lmul f45_9 ?_
  refine k_lconst (v := 12345) f45_10 rfl ?_
  refine k_ladd f45_13 ?_
  refine k_lconst (v := 2147483647) f45_14 rfl ?_
  refine k_land f45_17 ?_
  refine k_l2i f45_18 ?_
  rw [nx_c hX]
  refine k_putI f45_19 hst rfl ?_
  refine k_aload f45_22 rfl ?_
  refine k_gI (w := nI (nx X)) f45_23 hst rfl (z_u_same _ _ _ _) ?_
  refine k_iconst (v := 65536) f45_26 rfl ?_
  refine k_idiv f45_28 (by decide) ?_
  exact k_iret f45_29 rfl ⟨rfl, rfl⟩
theorem lp_goBy1 {x : Nat × (Nat → Int32)} {d : Nat} {R : Nat → Nat → Option Nat} {G : zG} {I0 : Nat → Nat → Int32} {st pl t r n m D P : Nat} (hR : Rs R) (hS : Sh G) (hst2 : st = 17 ∨ st = 27) (hru : RuR I0 R G t r) (hn8 : n ≤ 8) (hm24 : m ≤ 24) (hP : 0 < P) (hP11 : P < 11) (hD : D ≤ 400) : ∀ (f i : Nat) (y : Nat × ((Nat → Int32) × Int32)) (I : Nat → Nat → Int32) (J : Nat → Nat → Int64) (u7 u8 : Value), i + f = D → (CZ I0 R G st pl y.2.1 y.2 I ∧ y.2.1 1 = nI n ∧ MW y.2.1 m ∧ y.2.1 0 = nI P ∧ y.2.1 5 = nI y.1 ∧ y.1 < 2147483648) → zOk x (d + 6) 14 17 [.ref 42, .ref st, .ref r, .int (nI D), .int (1), .int (nI P), .int (nI i), u7, u8] [] (I, J, R, G) (fun v mm => v = some (.int (foL (fun _ => yC (soB I0 t) n m P) i f y).2.2) ∧ ∃ I' J', mm = (I', J', R, G) ∧ CZ I0 R G st pl (foL (fun _ => yC (soB I0 t) n m P) i f y).2.1 (foL (fun _ => yC (soB I0 t) n m P) i f y).2 I' ∧ (foL (fun _ => yC (soB I0 t) n m P) i f y).2.1 5 = nI (foL (fun _ => yC (soB I0 t) n m P) i f y).1 ∧ (foL (fun _ => yC (soB I0 t) n m P) i f y).1 < 2147483648) := by
  intro f
  induction f with
  | zero =>
    intro i y I J u7 u8 hi hz
    obtain ⟨hz, hn, hmw, h0, h5, hX⟩ := hz
    have hst : StR I R G st pl y.2.1 := hz.1
    refine k_iload f14_17 rfl ?_
    refine k_iload f14_19 rfl ?_
    refine k_ic_ge f14_20 (fun _ => ?_) (fun h_ => absurd (nI_le (by omega) (by omega)) h_)
    refine k_aload f14_80 rfl ?_
    refine k_gI (w := y.2.2) f14_81 hS.o42 rfl hz.2.1 ?_
    exact k_iret f14_84 rfl ⟨rfl, I, J, rfl, hz, h5, hX⟩
  | succ f ih =>
    intro i y I J u7 u8 hi hz
    obtain ⟨hz, hn, hmw, h0, h5, hX⟩ := hz
    have hst : StR I R G st pl y.2.1 := hz.1
    have hin : i < D := by omega
    have hm25 : cl (y.2.1 2) ≤ 25 := by rw [hmw.1, cl_nI (by omega)]; omega
    have hX1 := nx_lt y.1
    have hX2 := nx_lt (nx y.1)
    have eU : z_u (z_u I st 4 (nI (nx y.1))) st 4 (nI (nx (nx y.1))) = z_u I st 4 (nI (nx (nx y.1))) := by
      funext p k
      unfold z_u
      by_cases q : p = st ∧ k = 4
      · rw [if_pos q, if_pos q]
      · rw [if_neg q, if_neg q, if_neg q]
    have hzx := hz.x (nI (nx (nx y.1))) hst2 hm25
    have l0 : y.2.1 0 = nI P := h0
    have c0 : cl (fu y.2.1 5 (nI (nx (nx y.1))) 0) = P := by rw [fu_no _ _ (by omega), l0, cl_nI (by omega)]
    have b1 := d1_lt (X := y.1) hP
    have b2 := d2_lt (X := y.1) hP
    refine k_iload f14_17 rfl ?_
    refine k_iload f14_19 rfl ?_
    refine k_ic_ge f14_20 (fun h_ => absurd h_ (nI_ge hin (by omega))) (fun _ => ?_)
    refine k_iload f14_23 rfl ?_
    refine k_if_le f14_25 (fun h_ => absurd h_ (nI_nle hP (by omega))) (fun _ => ?_)
    refine k_iload f14_28 rfl ?_
    refine k_if_eq f14_30 (fun h_ => absurd h_ (by decide)) (fun _ => ?_)
    refine k_aload f14_33 rfl ?_
    refine e_v (as := []) (rest := []) f14_34 hst.1.1 rfl rfl rfl (s_draw (st := st) (X := y.1) hst.1.1 (hst.2.2.2.2.2.2.2.1.trans h5) hX) ?_
    refine k_iload f14_37 rfl ?_
    refine k_irem f14_39 (nI_ne0 hP (by omega)) ?_
    rw [dr_c hX1 hP hP11]
    refine k_goto f14_40 ?_
    refine k_istore (L' := [.ref 42, .ref st, .ref r, .int (nI D), .int (1), .int (nI P), .int (nI i), .int (nI (d1 P y.1)), u8]) f14_44 rfl rfl ?_
    refine k_iload f14_46 rfl ?_
    refine k_if_eq f14_48 (fun h_ => absurd h_ (by decide)) (fun _ => ?_)
    refine k_aload f14_51 rfl ?_
    refine e_v (as := []) (rest := []) f14_52 hst.1.1 rfl rfl rfl (s_draw (st := st) (X := nx y.1) hst.1.1 (z_u_same _ _ _ _) hX1) ?_
    refine k_iload f14_55 rfl ?_
    refine k_irem f14_57 (nI_ne0 hP (by omega)) ?_
    rw [dr_c hX2 hP hP11]
    refine k_goto f14_58 ?_
    refine k_istore (L' := [.ref 42, .ref st, .ref r, .int (nI D), .int (1), .int (nI P), .int (nI i), .int (nI (d1 P y.1)), .int (nI (d2 P y.1))]) f14_62 rfl rfl ?_
    refine k_aload f14_64 rfl ?_
    refine k_aload f14_65 rfl ?_
    refine k_aload f14_66 rfl ?_
    refine k_iload f14_67 rfl ?_
    refine k_iload f14_69 rfl ?_
    rw [eU]
    refine k_callv (as := [.int (nI (d2 P y.1)), .int (nI (d1 P y.1)), .ref r, .ref st]) (rest := []) f14_71 hS.o42 rfl rfl rfl rfl (q_passDay (a := d1 P y.1) (b := d2 P y.1) hR hS hst2 hru ((fu_no _ _ (by omega)).trans hn) hn8 (by rw [fu_no _ _ (by omega)]; exact hm25) (by omega) (by omega) (fun _ => ⟨by rw [c0]; exact b1, by rw [c0]; exact b2⟩) hmw.x hm24 hzx) ?_
    rintro _ _ ⟨rfl, I1, J1, rfl, hz1⟩
    refine k_iinc (w := nI (i + 1)) (L' := [.ref 42, .ref st, .ref r, .int (nI D), .int (1), .int (nI P), .int (nI (i + 1)), .int (nI (d1 P y.1)), .int (nI (d2 P y.1))]) f14_74 rfl (nI_1 i) rfl rfl ?_
    refine k_goto f14_77 ?_
    rw [foL_s]
    have ae : AE (fu y.2.1 5 (nI (nx (nx y.1)))) (yC (soB I0 t) n m P y).2.1 := AE.of hz1.2.2.2.1
    exact ih (i + 1) (yC (soB I0 t) n m P y) I1 J1 _ _ (by omega) ⟨hz1.re, (ae 1 (by omega)).trans ((fu_no _ _ (by omega)).trans hn), hmw.x.ae ae, (ae 0 (by omega)).trans ((fu_no _ _ (by omega)).trans h0), (ae 5 (by omega)).trans (fu_same _ _ _), hX2⟩
theorem q_goBy1 {x : Nat × (Nat → Int32)} {d : Nat} {R : Nat → Nat → Option Nat} {G : zG} {I0 : Nat → Nat → Int32} {I : Nat → Nat → Int32} {J : Nat → Nat → Int64} {y : Nat × ((Nat → Int32) × Int32)} {st pl t r n m D P : Nat} (hR : Rs R) (hS : Sh G) (hst2 : st = 17 ∨ st = 27) (hru : RuR I0 R G t r) (hn8 : n ≤ 8) (hm24 : m ≤ 24) (hP : 0 < P) (hP11 : P < 11) (hD : D ≤ 400) (hz : CZ I0 R G st pl y.2.1 y.2 I) (hn : y.2.1 1 = nI n) (hmw : MW y.2.1 m) (h0 : y.2.1 0 = nI P) (h5 : y.2.1 5 = nI y.1) (hX : y.1 < 2147483648) : zOk x (d + 6) 14 0 [.ref 42, .ref st, .ref r, .int (nI D), .int (1), zU, zU, zU, zU] [] (I, J, R, G) (fun v mm => v = some (.int (foL (fun _ => yC (soB I0 t) n m P) 0 D (y.1, (y.2.1, 0))).2.2) ∧ ∃ I' J', mm = (I', J', R, G) ∧ CZ I0 R G st pl (foL (fun _ => yC (soB I0 t) n m P) 0 D (y.1, (y.2.1, 0))).2.1 (foL (fun _ => yC (soB I0 t) n m P) 0 D (y.1, (y.2.1, 0))).2 I' ∧ (foL (fun _ => yC (soB I0 t) n m P) 0 D (y.1, (y.2.1, 0))).2.1 5 = nI (foL (fun _ => yC (soB I0 t) n m P) 0 D (y.1, (y.2.1, 0))).1 ∧ (foL (fun _ => yC (soB I0 t) n m P) 0 D (y.1, (y.2.1, 0))).1 < 2147483648) := by
  have hst := hz.1
  have hpl := hst.2.2.1.1
  refine k_aload f14_0 rfl ?_
  refine k_iconst (v := 0) f14_1 rfl ?_
  refine k_putI f14_2 hS.o42 rfl ?_
  refine k_aload f14_5 rfl ?_
  refine k_getr (q := pl) f14_6 hst.1.1 rfl hst.2.1 ?_
  refine k_gI (w := nI P) f14_9 hst.2.2.1.2.1 rfl (Eq.trans (z_u_p _ _ _ _ (by omega)) (hst.2.2.2.1.1.trans h0)) ?_
  refine k_istore (L' := [.ref 42, .ref st, .ref r, .int (nI D), .int (1), .int (nI P), zU, zU, zU]) f14_12 rfl rfl ?_
  refine k_iconst (v := 0) f14_14 rfl ?_
  refine k_istore (L' := [.ref 42, .ref st, .ref r, .int (nI D), .int (1), .int (nI P), .int (0), zU, zU]) f14_15 rfl rfl ?_
  exact lp_goBy1 hR hS hst2 hru hn8 hm24 hP hP11 hD D 0 (y.1, (y.2.1, 0)) _ J _ _ (by omega) ⟨⟨hz.1.keep (Nat.le_of_lt_succ hz.2.2.1.2.1.2) Gk.rfl (fun p k _ hp => z_u_p _ _ _ _ (by omega)) (fun _ _ _ _ => rfl), z_u_same _ _ _ _, hz.2.2.1, AF.rfl, fun p k g1 g2 => (z_u_no _ _ g2).trans (hz.2.2.2.2 p k g1 g2)⟩, hn, hmw, h0, h5, hX⟩
