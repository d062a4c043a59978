/-! RINGS, the pair. -/
theorem rg_n {n : Int32} (h1 : ¬ n < 3) (h2 : ¬ 6 < n) : ∃ l, 1 ≤ l ∧ l ≤ 4 ∧ n = nI (l + 1 + 1) := by
  rw [Int32.lt_iff_toInt_lt] at h1 h2
  have e1 : (3 : Int32).toInt = 3 := by decide
  have e2 : (6 : Int32).toInt = 6 := by decide
  rw [e1] at h1
  rw [e2] at h2
  have : n.toInt = 3 ∨ n.toInt = 4 ∨ n.toInt = 5 ∨ n.toInt = 6 := by omega
  rcases this with e | e | e | e
  · exact ⟨1, by omega, by omega, Int32.toInt_inj.mp (e.trans (by decide))⟩
  · exact ⟨2, by omega, by omega, Int32.toInt_inj.mp (e.trans (by decide))⟩
  · exact ⟨3, by omega, by omega, Int32.toInt_inj.mp (e.trans (by decide))⟩
  · exact ⟨4, by omega, by omega, Int32.toInt_inj.mp (e.trans (by decide))⟩
theorem SOk.ab {s : Nat → Int32} {rn : Nat} (h : SOk s rn) : AB (cl (s 0)) (foL (ajS s) 0 (cl (s 2)) (fun _ => 0)) :=
  AB.fo (m := cl (s 2)) (fun j hj => ⟨(h.2.2.2.2.2.2.2.2 j hj).2.1.2, (h.2.2.2.2.2.2.2.2 j hj).2.2.1.2⟩) (cl (s 2)) 0 (fun _ => 0) (by omega) (fun p q hq => by rw [Nat.zero_testBit] at hq; cases hq)
theorem lp_adjZ {x : Nat × (Nat → Int32)} {d : Nat} {J : Nat → Nat → Int64} {R : Nat → Nat → Option Nat} {G : zG} {I0 : Nat → Nat → Int32} {n p : Int32} {u4 u5 : Value} {Q : Option Value → zM → Prop} (hR : Rs R) (hS : Sh G) (hk : ∀ I' u3, (∀ k, k < 10 → I' 67 k = 0) → (∀ p k, p ≠ 67 → I' p k = I0 p k) → zOk x d 194 45 [.ref 51, .int n, .int p, u3, u4, u5] [] (I', J, R, G) Q) : ∀ (f i : Nat) (I : Nat → Nat → Int32), i + f = 10 → ((∀ k, k < i → I 67 k = 0) ∧ (∀ p k, p ≠ 67 → I p k = I0 p k)) → zOk x d 194 26 [.ref 51, .int (n), .int (p), .int (nI i), u4, u5] [] (I, J, R, G) Q := by
  intro f
  induction f with
  | zero =>
    intro i I hi hz
    obtain ⟨hz, hfr⟩ := hz
    refine k_iload f194_26 rfl ?_
    refine k_iconst (v := 10) f194_27 rfl ?_
    refine k_ic_ge f194_29 (fun _ => ?_) (fun h_ => absurd (nI_le (a := 10) (by omega) (by omega)) h_)
    exact hk I _ (fun k hk => hz k (by omega)) hfr
  | succ f ih =>
    intro i I hi hz
    obtain ⟨hz, hfr⟩ := hz
    have hin : i < 10 := by omega
    refine k_iload f194_26 rfl ?_
    refine k_iconst (v := 10) f194_27 rfl ?_
    refine k_ic_ge f194_29 (fun h_ => absurd h_ (nI_ge (b := 10) hin (by omega))) (fun _ => ?_)
    refine k_aload f194_32 rfl ?_
    refine k_getr (q := 67) f194_33 hS.o51 rfl hR.r51_35 ?_
    refine k_iload f194_36 rfl ?_
    refine k_iconst (v := 0) f194_37 rfl ?_
    refine k_is (k := i) f194_38 hS.a67 rfl (by omega) (by decide) ?_
    refine k_iinc (w := nI (i + 1)) (L' := [.ref 51, .int (n), .int (p), .int (nI (i + 1)), u4, u5]) f194_39 rfl (nI_1 i) rfl rfl ?_
    refine k_goto f194_42 ?_
    refine ih (i + 1) _ (by omega) ⟨fun k hk => ?_, fun p k h => (z_u_p _ _ _ _ h).trans (hfr p k h)⟩
    by_cases e : k = i
    · rw [e, z_u_same]
    · rw [z_u_k _ _ _ e]; exact hz k (by omega)
theorem op_rings {x : Nat × (Nat → Int32)} (n person : Int32) : Op Inv x 89 194 [.int n, .int person] := by
  refine Op.of2 fun j I J R G hj hI => ?_
  have hS : Sh G := hI.1
  have hR : Rs R := hI.2.1
  have hT1 : Rg (I 9 1) 401 := hI.2.2.2.2.1.1
  have hT2 : I 51 1 = I 9 1 := hI.2.2.2.2.1.2.1
  have hN1 : Rg (I 0 4) 7 := hI.2.2.2.2.2.1.1
  have hN2 : I 51 2 = I 0 4 := hI.2.2.2.2.2.1.2.1
  have hN3 : ∀ t, t < cl (I 0 4) → ∃ r, R 16 t = some r ∧ RuR I R G t r := hI.2.2.2.2.2.1.2.2
  obtain ⟨pl, hst⟩ : ∃ pl, StR I R G 17 pl (I 62) := hI.2.2.2.2.2.2.1
  have hO : SOk (I 62) (cl (I 0 4)) := hI.2.2.2.2.2.2.2.1
  by_cases h3 : n < 3
  · by_cases hp : ¬ person < 0 ∧ ¬ I 62 0 ≤ person
    · show zOk x 399 89 0 [.ref 0, .int (n), .int (person), zU, zU] [] _ _
      refine k_aload f89_0 rfl ?_
      refine k_iload f89_1 rfl ?_
      refine e_v (as := [.int (person)]) (rest := []) f89_2 hS.o0 rfl rfl rfl (s_hasPerson hR hS hst) ?_
      refine k_beq f89_5 (fun h_ => absurd (hp) h_) (fun _ => ?_)
      refine k_iload f89_8 rfl ?_
      refine k_iconst (v := 3) f89_9 rfl ?_
      refine k_ic_lt f89_10 (fun _ => ?_) (fun h_ => absurd (h3) h_)
      refine k_iconst (v := (-1)) f89_19 rfl ?_
      refine k_iret f89_20 rfl ⟨_, rfl, ?_⟩
      show zOk x 399 194 0 [.ref 51, .int (n), .int (person), zU, zU, zU] [] _ _
      refine k_iload f194_0 rfl ?_
      refine k_i2l f194_1 ?_
      refine k_lconst (v := 3) f194_2 rfl ?_
      refine k_lconst (v := 6) f194_5 rfl ?_
      refine e_s (as := [.long (6), .long (3), .long ((n).toInt64)]) (rest := []) f194_8 rfl rfl rfl (s_in (3) (6) rfl rfl) ?_
      refine k_beq f194_11 (fun _ => ?_) (fun h_ => (absurd h_ ((fun q => q.1 h3))))
      refine k_iconst (v := (-1)) f194_22 rfl ?_
      refine k_iret f194_23 rfl ⟨rfl, ?_⟩
      exact inv_q hI (by omega) Kq.rfl KS.rfl
    · show zOk x 399 89 0 [.ref 0, .int (n), .int (person), zU, zU] [] _ _
      refine k_aload f89_0 rfl ?_
      refine k_iload f89_1 rfl ?_
      refine e_v (as := [.int (person)]) (rest := []) f89_2 hS.o0 rfl rfl rfl (s_hasPerson hR hS hst) ?_
      refine k_beq f89_5 (fun _ => ?_) (fun h_ => (absurd h_ (hp)))
      refine k_iconst (v := (-1)) f89_19 rfl ?_
      refine k_iret f89_20 rfl ⟨_, rfl, ?_⟩
      show zOk x 399 194 0 [.ref 51, .int (n), .int (person), zU, zU, zU] [] _ _
      refine k_iload f194_0 rfl ?_
      refine k_i2l f194_1 ?_
      refine k_lconst (v := 3) f194_2 rfl ?_
      refine k_lconst (v := 6) f194_5 rfl ?_
      refine e_s (as := [.long (6), .long (3), .long ((n).toInt64)]) (rest := []) f194_8 rfl rfl rfl (s_in (3) (6) rfl rfl) ?_
      refine k_beq f194_11 (fun _ => ?_) (fun h_ => (absurd h_ ((fun q => q.1 h3))))
      refine k_iconst (v := (-1)) f194_22 rfl ?_
      refine k_iret f194_23 rfl ⟨rfl, ?_⟩
      exact inv_q hI (by omega) Kq.rfl KS.rfl
  · by_cases h6 : 6 < n
    · by_cases hp : ¬ person < 0 ∧ ¬ I 62 0 ≤ person
      · show zOk x 399 89 0 [.ref 0, .int (n), .int (person), zU, zU] [] _ _
        refine k_aload f89_0 rfl ?_
        refine k_iload f89_1 rfl ?_
        refine e_v (as := [.int (person)]) (rest := []) f89_2 hS.o0 rfl rfl rfl (s_hasPerson hR hS hst) ?_
        refine k_beq f89_5 (fun h_ => absurd (hp) h_) (fun _ => ?_)
        refine k_iload f89_8 rfl ?_
        refine k_iconst (v := 3) f89_9 rfl ?_
        refine k_ic_lt f89_10 (fun h_ => absurd h_ (h3)) (fun _ => ?_)
        refine k_iload f89_13 rfl ?_
        refine k_iconst (v := 6) f89_14 rfl ?_
        refine k_ic_le f89_16 (fun h_ => absurd h_ (Int32.not_le.mpr h6)) (fun _ => ?_)
        refine k_iconst (v := (-1)) f89_19 rfl ?_
        refine k_iret f89_20 rfl ⟨_, rfl, ?_⟩
        show zOk x 399 194 0 [.ref 51, .int (n), .int (person), zU, zU, zU] [] _ _
        refine k_iload f194_0 rfl ?_
        refine k_i2l f194_1 ?_
        refine k_lconst (v := 3) f194_2 rfl ?_
        refine k_lconst (v := 6) f194_5 rfl ?_
        refine e_s (as := [.long (6), .long (3), .long ((n).toInt64)]) (rest := []) f194_8 rfl rfl rfl (s_in (3) (6) rfl rfl) ?_
        refine k_beq f194_11 (fun _ => ?_) (fun h_ => (absurd h_ ((fun q => q.2 h6))))
        refine k_iconst (v := (-1)) f194_22 rfl ?_
        refine k_iret f194_23 rfl ⟨rfl, ?_⟩
        exact inv_q hI (by omega) Kq.rfl KS.rfl
      · show zOk x 399 89 0 [.ref 0, .int (n), .int (person), zU, zU] [] _ _
        refine k_aload f89_0 rfl ?_
        refine k_iload f89_1 rfl ?_
        refine e_v (as := [.int (person)]) (rest := []) f89_2 hS.o0 rfl rfl rfl (s_hasPerson hR hS hst) ?_
        refine k_beq f89_5 (fun _ => ?_) (fun h_ => (absurd h_ (hp)))
        refine k_iconst (v := (-1)) f89_19 rfl ?_
        refine k_iret f89_20 rfl ⟨_, rfl, ?_⟩
        show zOk x 399 194 0 [.ref 51, .int (n), .int (person), zU, zU, zU] [] _ _
        refine k_iload f194_0 rfl ?_
        refine k_i2l f194_1 ?_
        refine k_lconst (v := 3) f194_2 rfl ?_
        refine k_lconst (v := 6) f194_5 rfl ?_
        refine e_s (as := [.long (6), .long (3), .long ((n).toInt64)]) (rest := []) f194_8 rfl rfl rfl (s_in (3) (6) rfl rfl) ?_
        refine k_beq f194_11 (fun _ => ?_) (fun h_ => (absurd h_ ((fun q => q.2 h6))))
        refine k_iconst (v := (-1)) f194_22 rfl ?_
        refine k_iret f194_23 rfl ⟨rfl, ?_⟩
        exact inv_q hI (by omega) Kq.rfl KS.rfl
    · by_cases hp : ¬ person < 0 ∧ ¬ I 62 0 ≤ person
      · obtain ⟨l, hl1, hl4, rfl⟩ := rg_n h3 h6
        obtain ⟨st, hst9, rfl⟩ := ix_of hO.1 (by omega) hp
        have hm25 := hO.2.2.1.2
        have hn9 := hO.2.1.2
        have hP := hO.1.2
        have hs10 : st < 10 := by omega
        show zOk x 399 89 0 [.ref 0, .int (nI (l + 1 + 1)), .int (nI st), zU, zU] [] _ _
        refine k_aload f89_0 rfl ?_
        refine k_iload f89_1 rfl ?_
        refine e_v (as := [.int (nI st)]) (rest := []) f89_2 hS.o0 rfl rfl rfl (s_hasPerson hR hS hst) ?_
        refine k_beq f89_5 (fun h_ => absurd (hp) h_) (fun _ => ?_)
        refine k_iload f89_8 rfl ?_
        refine k_iconst (v := 3) f89_9 rfl ?_
        refine k_ic_lt f89_10 (fun h_ => absurd h_ (h3)) (fun _ => ?_)
        refine k_iload f89_13 rfl ?_
        refine k_iconst (v := 6) f89_14 rfl ?_
        refine k_ic_le f89_16 (fun _ => ?_) (fun h_ => absurd (Int32.not_lt.mp h6) h_)
        refine k_aload f89_21 rfl ?_
        refine k_getr (q := 17) f89_22 hS.o0 rfl hR.r0_5 ?_
        refine k_getr (q := pl) f89_25 hS.o17 rfl hst.2.1 ?_
        refine k_astore (L' := [.ref 0, .int (nI (l + 1 + 1)), .int (nI st), .ref pl, zU]) f89_28 rfl rfl ?_
        refine k_aload f89_29 rfl ?_
        refine k_getr (q := 50) f89_30 hS.o0 rfl hR.r0_14 ?_
        refine k_iconst (v := 0) f89_33 rfl ?_
        refine k_calls (as := [.int (0), .ref 50]) (rest := []) f89_34 rfl rfl rfl rfl (q_fill (q := 50) (N := 10) (v := 0) hS.a50 (by omega)) ?_
        rintro _ _ ⟨rfl, I1, rfl, hv1, hf1⟩
        have hpl := hst.2.2.1.1
        have hst1 : StR I1 R G 17 pl (I 62) := hst.keep (by omega) Gk.rfl (fun p k _ hp => hf1 p k (by omega)) (fun _ _ _ _ => rfl)
        refine k_iconst (v := 0) f89_37 rfl ?_
        refine k_istore (L' := [.ref 0, .int (nI (l + 1 + 1)), .int (nI st), .ref pl, .int (0)]) f89_38 rfl rfl ?_
        refine lp_adjC (I0 := I1) (gf := (foL (ajS (I 62)) 0 (cl (I 62 2)) (fun _ => 0))) hR hS hst1 (by omega) hO.mw (by omega) hO.md (fun I2 u4 ha2 hf2 => ?_) (cl (I 62 2)) 0 (fun _ => 0) I1 (by omega) ⟨fun p hp => ⟨(hv1 p hp).trans rfl, (by decide : 0 < 1024)⟩, fun _ _ _ => rfl, rfl⟩
        refine k_aload f89_103 rfl ?_
        refine k_getr (q := 50) f89_104 hS.o0 rfl hR.r0_14 ?_
        refine k_iload f89_107 rfl ?_
        refine k_iload f89_108 rfl ?_
        refine k_iconst (v := 1) f89_109 rfl ?_
        refine k_iload f89_110 rfl ?_
        refine k_ishl f89_111 ?_
        rw [sh_1 st (by omega)]
        refine k_iload f89_112 rfl ?_
        refine k_iconst (v := 1) f89_113 rfl ?_
        refine k_isub f89_114 ?_
        rw [nI_pred (l + 1)]
        refine k_calls (as := [.int (nI (l + 1)), .int (nI (2 ^ st)), .int (nI st), .int (nI st), .ref 50]) (rest := []) f89_115 rfl rfl rfl rfl ((by have h := q_rounds (x := x) (J := J) (R := R) (g := (foL (ajS (I 62)) 0 (cl (I 62 2)) (fun _ => 0))) (st := st) hS ha2 hs10 (l + 1) (396 - l) st (2 ^ st) (by omega) hs10 (p_1024 hs10); rw [show 396 - l + (l + 1) + 1 = 398 from by omega] at h; exact h)) ?_
        rintro _ _ ⟨rfl, rfl⟩
        refine k_iconst (v := 2) f89_118 rfl ?_
        refine k_idiv f89_119 (by decide) ?_
        refine k_iret f89_120 rfl ⟨_, rfl, ?_⟩
        have hs2 : I2 62 = I 62 := (funext fun k => hf2 62 k (by omega)).trans (funext fun k => hf1 62 k (by omega))
        show zOk x 399 194 0 [.ref 51, .int (nI (l + 1 + 1)), .int (nI st), zU, zU, zU] [] _ _
        refine k_iload f194_0 rfl ?_
        refine k_i2l f194_1 ?_
        refine k_lconst (v := 3) f194_2 rfl ?_
        refine k_lconst (v := 6) f194_5 rfl ?_
        refine e_s (as := [.long (6), .long (3), .long ((nI (l + 1 + 1)).toInt64)]) (rest := []) f194_8 rfl rfl rfl (s_in (3) (6) rfl rfl) ?_
        refine k_beq f194_11 (fun h_ => absurd (⟨h3, h6⟩) h_) (fun _ => ?_)
        refine k_aload f194_14 rfl ?_
        refine k_iload f194_15 rfl ?_
        refine e_v (as := [.int (nI st)]) (rest := []) f194_16 hS.o51 rfl rfl rfl (s_isPerson (w := I 62 0) hR hS (congrFun hs2 0)) ?_
        refine k_bne f194_19 (fun _ => ?_) (fun h_ => absurd (hp) h_)
        refine k_iconst (v := 0) f194_24 rfl ?_
        refine k_istore (L' := [.ref 51, .int (nI (l + 1 + 1)), .int (nI st), .int (0), zU, zU]) f194_25 rfl rfl ?_
        refine lp_adjZ (I0 := I2) hR hS (fun I3 u3 hv3 hf3 => ?_) 10 0 I2 (by omega) ⟨fun k hk => absurd hk (Nat.not_lt_zero _), fun _ _ _ => rfl⟩
        have hs3 : I3 62 = I 62 := (funext fun k => hf3 62 k (by omega)).trans hs2
        refine k_iconst (v := 0) f194_45 rfl ?_
        refine k_istore (L' := [.ref 51, .int (nI (l + 1 + 1)), .int (nI st), .int (0), zU, zU]) f194_46 rfl rfl ?_
        refine lp_adjM (I0 := I3) (gf := (foL (ajS (I 62)) 0 (cl (I 62 2)) (fun _ => 0))) hR hS hs3 hO.mw (by omega) hO.md (fun I4 w3 ha4 hf4 => ?_) (cl (I 62 2)) 0 (fun _ => 0) I3 (by omega) ⟨fun p hp => ⟨(hv3 p hp).trans rfl, (by decide : 0 < 1024)⟩, fun _ _ _ => rfl, rfl⟩
        have hs4 : I4 62 = I 62 := (funext fun k => hf4 62 k (by omega)).trans hs3
        refine k_iconst (v := 0) f194_107 rfl ?_
        refine k_istore (L' := [.ref 51, .int (nI (l + 1 + 1)), .int (nI st), .int (0), zU, zU]) f194_108 rfl rfl ?_
        refine k_iconst (v := 1) f194_109 rfl ?_
        refine k_istore (L' := [.ref 51, .int (nI (l + 1 + 1)), .int (nI st), .int (0), .int (1), zU]) f194_110 rfl rfl ?_
        refine k_aload f194_112 rfl ?_
        refine k_getr (q := 68) f194_113 hS.o51 rfl hR.r51_36 ?_
        refine k_iconst (v := 0) f194_116 rfl ?_
        refine k_iload f194_117 rfl ?_
        refine k_is (k := 0) f194_118 hS.a68 rfl (by decide) (by decide) ?_
        refine k_aload f194_119 rfl ?_
        refine k_getr (q := 68) f194_120 hS.o51 rfl hR.r51_36 ?_
        refine k_iconst (v := 1) f194_123 rfl ?_
        refine k_iconst (v := (-1)) f194_124 rfl ?_
        refine k_is (k := 1) f194_125 hS.a68 rfl (by decide) (by decide) ?_
        obtain ⟨I5, eI5⟩ : ∃ I5, I5 = z_u (z_u I4 68 0 (nI st)) 68 1 (-1) := ⟨_, rfl⟩
        rw [← eI5]
        have hf5 : ∀ p k, p ≠ 68 → I5 p k = I4 p k := fun p k h => by rw [eI5, z_u_p _ _ _ _ h, z_u_p _ _ _ _ h]
        refine lp_ring (d := 398) (I0 := I5) (g := (foL (ajS (I 62)) 0 (cl (I 62 2)) (fun _ => 0))) (P := cl (I 62 0)) (N := l + 1) (st := st) hR hS (fun p hp => ⟨(hf5 _ _ (by omega)).trans (ha4 p hp).1, (ha4 p hp).2⟩) hO.ab ((hf5 62 0 (by omega)).trans ((congrFun hs4 0).trans hO.1.1)) (by omega) (by omega) hs10 l 0 (2 ^ st) (fun _ => st) (by omega) (fun _ _ => hs10) (fun q hq => ?_) (cl (I 62 0)) 0 0 I5 _ (by omega) (fun i hi => ?_) ?_ (fun _ _ _ => rfl) (fun I6 w5 _ hf6 => ?_)
        · rw [ahB_iff]
          rw [Nat.testBit_two_pow, decide_eq_true_eq]
          exact ⟨fun h => ⟨0, by omega, by omega, h⟩, fun ⟨j, _, _, h⟩ => h⟩
        · rw [show i = 0 by omega, eI5, z_u_k _ _ _ (by omega), z_u_same]
        · rw [eI5, z_u_same]; decide
        · rw [rF_cut hO.ab (by omega), Nat.zero_add]
          refine k_iload f194_126 rfl ?_
          refine k_if_le f194_128 (fun _ => ?_) (fun h_ => absurd (by decide) h_)
          refine k_iload f194_248 rfl ?_
          refine k_iconst (v := 2) f194_249 rfl ?_
          refine k_idiv f194_250 (by decide) ?_
          refine k_iret f194_251 rfl ⟨rfl, ?_⟩
          refine inv_q hI (by omega) (fun p k _ hs => ?_) KS.rfl
          rw [hf6 p k (fun h => hs (by unfold sc0; omega)), hf5 p k (fun h => hs (by unfold sc0; omega)), hf4 p k (fun h => hs (by unfold sc0; omega)), hf3 p k (fun h => hs (by unfold sc0; omega)), hf2 p k (fun h => hs (by unfold sc0; omega)), hf1 p k (fun h => hs (by unfold sc0; omega))]
      · show zOk x 399 89 0 [.ref 0, .int (n), .int (person), zU, zU] [] _ _
        refine k_aload f89_0 rfl ?_
        refine k_iload f89_1 rfl ?_
        refine e_v (as := [.int (person)]) (rest := []) f89_2 hS.o0 rfl rfl rfl (s_hasPerson hR hS hst) ?_
        refine k_beq f89_5 (fun _ => ?_) (fun h_ => (absurd h_ (hp)))
        refine k_iconst (v := (-1)) f89_19 rfl ?_
        refine k_iret f89_20 rfl ⟨_, rfl, ?_⟩
        show zOk x 399 194 0 [.ref 51, .int (n), .int (person), zU, zU, zU] [] _ _
        refine k_iload f194_0 rfl ?_
        refine k_i2l f194_1 ?_
        refine k_lconst (v := 3) f194_2 rfl ?_
        refine k_lconst (v := 6) f194_5 rfl ?_
        refine e_s (as := [.long (6), .long (3), .long ((n).toInt64)]) (rest := []) f194_8 rfl rfl rfl (s_in (3) (6) rfl rfl) ?_
        refine k_beq f194_11 (fun h_ => absurd (⟨h3, h6⟩) h_) (fun _ => ?_)
        refine k_aload f194_14 rfl ?_
        refine k_iload f194_15 rfl ?_
        refine e_v (as := [.int (person)]) (rest := []) f194_16 hS.o51 rfl rfl rfl (s_isPerson (w := I 62 0) hR hS rfl) ?_
        refine k_bne f194_19 (fun h_ => absurd h_ (hp)) (fun _ => ?_)
        refine k_iconst (v := (-1)) f194_22 rfl ?_
        refine k_iret f194_23 rfl ⟨rfl, ?_⟩
        exact inv_q hI (by omega) Kq.rfl KS.rfl
