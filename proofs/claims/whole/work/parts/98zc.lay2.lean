/-! WAYS laid: the whole call. -/
theorem ks43 {G : zG} {R : Nat → Nat → Option Nat} (v w : Option Nat) : KS G R (z_u (z_u R 43 2 v) 43 3 w) := fun p k _ _ h2 => by rw [z_u_no _ _ (by omega), z_u_no _ _ (by omega)]
theorem rs43 {G : zG} {R : Nat → Nat → Option Nat} (hS : Sh G) (hR : Rs R) (v w : Option Nat) : Rs (z_u (z_u R 43 2 v) 43 3 w) := rs_keep hS hR (fun p k _ _ h2 => by rw [z_u_no _ _ (by omega), z_u_no _ _ (by omega)])
theorem BR.rr {I : Nat → Nat → Int32} {R R' : Nat → Nat → Option Nat} {G : zG} {bo : Option Nat} {f : Int32} (h : BR I R G bo f) (hr : ∀ p k, 71 ≤ p → R' p k = R p k) : BR I R' G bo f := by
  rcases h with h | ⟨t, r, h1, h2, h3, h4⟩
  · exact Or.inl h
  · exact Or.inr ⟨t, r, h1, h2, h3, h4.rr hr⟩
theorem q_lay0 {x : Nat × (Nat → Int32)} {d : Nat} {I : Nat → Nat → Int32} {J : Nat → Nat → Int64} {R : Nat → Nat → Option Nat} {G : zG} {pl q n m h p : Nat} {s : Nat → Int32} {fo nu wo sp fr fe : Int32} (hR : Rs R) (hS : Sh G) (hst : StR I R G 17 pl s) (hn : s 1 = nI n) (hn8 : n ≤ 8) (hmw : MW s m) (hm24 : m ≤ 24) (h11 : cl (s 0) < 11) (hbr : BR I R G none fo) (hq : zo G q 1) (hq2 : q = 38 ∨ (19 ≤ q ∧ q ≤ 26)) (q0 : I q 0 = wo) (q1 : I q 1 = nI p) (q2 : I q 2 = sp) (q3 : I q 3 = nI h) (q4 : I q 4 = fe) (hh : h < 1024) : zOk x (d + 5) 63 0 [.ref 43, .null, .ref q, .int (nu), .int (fr), zU, zU, zU, zU, zU] [] (I, J, R, G) (fun v mm => v = none ∧ ∃ I' J', mm = (I', J', z_u (z_u R 43 2 none) 43 3 (some q), G) ∧ WB I' (z_u (z_u R 43 2 none) 43 3 (some q)) G pl q s none fo nu wo sp fr p h ∧ (∀ p k, ¬ (p = 44 ∨ p = 45) → ¬ (p = 43 ∧ (k = 4 ∨ k = 5 ∨ k = 6)) → I' p k = I p k) ∧ WL (baB I fo) I' s n m nu wo sp fr h m ∧ (hoN (baB I fo) s n nu wo sp fr fe p h → I' 43 6 = 1) ∧ (¬ hoN (baB I fo) s n nu wo sp fr fe p h → I' 43 6 = 0)) := by
  have hpl := hst.2.2.1.1
  have h8 : cl (s 1) ≤ 8 := by rw [hn, cl_nI (by omega)]; exact hn8
  by_cases g1 : fr - sp ≤ s 7
  · by_cases hF : fe = 0
    · refine k_aload f63_0 rfl ?_
      refine k_aloadn f63_1 rfl ?_
      refine k_putN f63_2 hS.o43 rfl ?_
      refine k_aload f63_5 rfl ?_
      refine k_aload f63_6 rfl ?_
      refine k_putR f63_7 hS.o43 rfl ?_
      obtain ⟨R1, eR1⟩ : ∃ R1, R1 = z_u (z_u R 43 2 none) 43 3 (some q) := ⟨_, rfl⟩
      rw [← eR1]
      have hR1 : Rs R1 := eR1 ▸ rs43 hS hR _ _
      have fR : ∀ p k, p ≠ 43 → R1 p k = R p k := fun p k hp => by rw [eR1, z_u_p _ _ _ _ hp, z_u_p _ _ _ _ hp]
      have hst1 : StR I R1 G 17 pl s := hst.keep h8 Gk.rfl (fun _ _ _ _ => rfl) (fun p k _ hp => fR p k (by omega))
      have hbr1 := hbr.rr (R' := R1) fun p k hp => fR p k (by omega)
      have r2 : R1 43 2 = none := by rw [eR1, z_u_k _ _ _ (by omega), z_u_same]
      have r3 : R1 43 3 = some q := by rw [eR1, z_u_same]
      refine k_aload f63_10 rfl ?_
      refine k_iload f63_11 rfl ?_
      refine k_putI f63_12 hS.o43 rfl ?_
      refine k_aload f63_15 rfl ?_
      refine k_iload f63_16 rfl ?_
      refine k_putI f63_18 hS.o43 rfl ?_
      obtain ⟨I1, eI1⟩ : ∃ I1, I1 = z_u (z_u I 43 4 nu) 43 5 fr := ⟨_, rfl⟩
      rw [← eI1]
      have f1 : ∀ p k, ¬ (p = 43 ∧ (k = 4 ∨ k = 5)) → I1 p k = I p k := fun p k hp => by rw [eI1, z_u_no _ _ (by omega), z_u_no _ _ (by omega)]
      have hw1 : WB I1 R1 G pl q s none fo nu wo sp fr p h := ⟨hst1.keep h8 Gk.rfl (fun p k _ hp => f1 p k (by omega)) (fun _ _ _ _ => rfl), hbr1.kr (fun p k hp => f1 p k (by omega)), (f1 _ _ (by omega)).trans q0, (f1 _ _ (by omega)).trans q1, (f1 _ _ (by omega)).trans q2, (f1 _ _ (by omega)).trans q3, by rw [eI1, z_u_k _ _ _ (by omega), z_u_same], by rw [eI1, z_u_same]⟩
      refine k_aload f63_21 rfl ?_
      refine k_aload f63_22 rfl ?_
      refine k_iload f63_23 rfl ?_
      refine e_v (as := [.int (fr)]) (rest := [.ref 43]) f63_25 hS.o43 rfl rfl rfl (s_isGood (sp := sp) hR1 hS hw1.1 r3 hq hw1.2.2.2.2.1) ?_
      refine k_beq f63_28 (fun h_ => absurd (g1) h_) (fun _ => ?_)
      refine k_aload f63_31 rfl ?_
      refine k_gI (w := fe) f63_32 hq rfl ((f1 _ _ (by omega)).trans q4) ?_
      refine k_if_eq f63_35 (fun _ => ?_) (fun h_ => absurd (hF) h_)
      refine k_iconst (v := 0) f63_59 rfl ?_
      refine k_putZ f63_60 hS.o43 rfl (by decide) ?_
      refine k_aload f63_63 rfl ?_
      refine k_getr (q := 17) f63_64 hS.o43 rfl hR1.r43_1 ?_
      refine k_getr (q := pl) f63_67 hS.o17 rfl hst1.2.1 ?_
      refine k_astore (L' := [.ref 43, .null, .ref q, .int (nu), .int (fr), .ref pl, zU, zU, zU, zU]) f63_70 rfl rfl ?_
      refine k_iconst (v := 0) f63_72 rfl ?_
      refine k_istore (L' := [.ref 43, .null, .ref q, .int (nu), .int (fr), .ref pl, .int (0), zU, zU, zU]) f63_73 rfl rfl ?_
      obtain ⟨I2, eI2⟩ : ∃ I2, I2 = z_u I1 43 6 0 := ⟨_, rfl⟩
      rw [← eI2]
      have f2 : ∀ p k, ¬ (p = 43 ∧ k = 6) → I2 p k = I1 p k := fun p k hp => by rw [eI2, z_u_no _ _ hp]
      have eb : baB I2 fo = baB I fo := funext fun w => (baB_kr (fun p k hp => f2 p k (by omega)) fo w).trans (baB_kr (fun p k hp => f1 p k (by omega)) fo w)
      refine zOk.imp (lp_lay (I0 := I2) (fo := fo) (p := p) hR1 hS hn hn8 hmw hm24 h11 r2 r3 hq hq2 hh m 0 I2 J _ _ _ _ (by omega) ⟨hw1.keep h8 hq2 fun p k _ h2 => f2 p k (by omega), fun _ _ _ => rfl, fun k hk => absurd hk (Nat.not_lt_zero _)⟩) ?_
      rintro _ _ ⟨rfl, I3, J3, rfl, hw3, hf3, hl3⟩
      rw [eb] at hl3
      refine ⟨rfl, I3, J3, rfl, hw3, fun p k h1 h2 => (hf3 p k h1).trans ((f2 p k (by omega)).trans (f1 p k (by omega))), hl3, fun k => ?_, fun k => ?_⟩
      · rw [hf3 43 6 (by omega), eI2, z_u_same]
        exact absurd k (fun k => k.2.1 hF)
      · rw [hf3 43 6 (by omega), eI2, z_u_same]
    · by_cases b1 : baB I fo (gW s n nu wo (fr - sp) h True (nI p) (nI p) fr) = true
      · refine k_aload f63_0 rfl ?_
        refine k_aloadn f63_1 rfl ?_
        refine k_putN f63_2 hS.o43 rfl ?_
        refine k_aload f63_5 rfl ?_
        refine k_aload f63_6 rfl ?_
        refine k_putR f63_7 hS.o43 rfl ?_
        obtain ⟨R1, eR1⟩ : ∃ R1, R1 = z_u (z_u R 43 2 none) 43 3 (some q) := ⟨_, rfl⟩
        rw [← eR1]
        have hR1 : Rs R1 := eR1 ▸ rs43 hS hR _ _
        have fR : ∀ p k, p ≠ 43 → R1 p k = R p k := fun p k hp => by rw [eR1, z_u_p _ _ _ _ hp, z_u_p _ _ _ _ hp]
        have hst1 : StR I R1 G 17 pl s := hst.keep h8 Gk.rfl (fun _ _ _ _ => rfl) (fun p k _ hp => fR p k (by omega))
        have hbr1 := hbr.rr (R' := R1) fun p k hp => fR p k (by omega)
        have r2 : R1 43 2 = none := by rw [eR1, z_u_k _ _ _ (by omega), z_u_same]
        have r3 : R1 43 3 = some q := by rw [eR1, z_u_same]
        refine k_aload f63_10 rfl ?_
        refine k_iload f63_11 rfl ?_
        refine k_putI f63_12 hS.o43 rfl ?_
        refine k_aload f63_15 rfl ?_
        refine k_iload f63_16 rfl ?_
        refine k_putI f63_18 hS.o43 rfl ?_
        obtain ⟨I1, eI1⟩ : ∃ I1, I1 = z_u (z_u I 43 4 nu) 43 5 fr := ⟨_, rfl⟩
        rw [← eI1]
        have f1 : ∀ p k, ¬ (p = 43 ∧ (k = 4 ∨ k = 5)) → I1 p k = I p k := fun p k hp => by rw [eI1, z_u_no _ _ (by omega), z_u_no _ _ (by omega)]
        have hw1 : WB I1 R1 G pl q s none fo nu wo sp fr p h := ⟨hst1.keep h8 Gk.rfl (fun p k _ hp => f1 p k (by omega)) (fun _ _ _ _ => rfl), hbr1.kr (fun p k hp => f1 p k (by omega)), (f1 _ _ (by omega)).trans q0, (f1 _ _ (by omega)).trans q1, (f1 _ _ (by omega)).trans q2, (f1 _ _ (by omega)).trans q3, by rw [eI1, z_u_k _ _ _ (by omega), z_u_same], by rw [eI1, z_u_same]⟩
        refine k_aload f63_21 rfl ?_
        refine k_aload f63_22 rfl ?_
        refine k_iload f63_23 rfl ?_
        refine e_v (as := [.int (fr)]) (rest := [.ref 43]) f63_25 hS.o43 rfl rfl rfl (s_isGood (sp := sp) hR1 hS hw1.1 r3 hq hw1.2.2.2.2.1) ?_
        refine k_beq f63_28 (fun h_ => absurd (g1) h_) (fun _ => ?_)
        refine k_aload f63_31 rfl ?_
        refine k_gI (w := fe) f63_32 hq rfl ((f1 _ _ (by omega)).trans q4) ?_
        refine k_if_eq f63_35 (fun h_ => absurd h_ (hF)) (fun _ => ?_)
        refine k_aload f63_38 rfl ?_
        refine k_aload f63_39 rfl ?_
        refine k_gI (w := nI p) f63_40 hq rfl hw1.2.2.2.1 ?_
        refine k_aload f63_43 rfl ?_
        refine k_gI (w := nI h) f63_44 hq rfl hw1.2.2.2.2.2.1 ?_
        refine k_iload f63_47 rfl ?_
        refine k_callv (as := [.int (fr), .int (nI h), .int (nI p)]) (rest := [.ref 43]) f63_49 hS.o43 rfl rfl rfl rfl (q_may (b := p) (k := h) (th := fr) hR1 hS hw1.1 hn hn8 hw1.2.1 r2 r3 hq hw1.2.2.1 hw1.2.2.2.2.1 hw1.2.2.2.2.2.1 hh hw1.2.2.2.2.2.2.1 hh) ?_
        rintro _ _ ⟨rfl, J1, rfl⟩
        refine k_beq f63_52 (fun _ => ?_) (fun h_ => (absurd h_ ((fun k => k ((baB_kr (fun p k hp => f1 p k (by omega)) fo (gW s n nu wo (fr - sp) h True (nI p) (nI p) fr)).trans b1)))))
        refine k_iconst (v := 0) f63_59 rfl ?_
        refine k_putZ f63_60 hS.o43 rfl (by decide) ?_
        refine k_aload f63_63 rfl ?_
        refine k_getr (q := 17) f63_64 hS.o43 rfl hR1.r43_1 ?_
        refine k_getr (q := pl) f63_67 hS.o17 rfl hst1.2.1 ?_
        refine k_astore (L' := [.ref 43, .null, .ref q, .int (nu), .int (fr), .ref pl, zU, zU, zU, zU]) f63_70 rfl rfl ?_
        refine k_iconst (v := 0) f63_72 rfl ?_
        refine k_istore (L' := [.ref 43, .null, .ref q, .int (nu), .int (fr), .ref pl, .int (0), zU, zU, zU]) f63_73 rfl rfl ?_
        obtain ⟨I2, eI2⟩ : ∃ I2, I2 = z_u I1 43 6 0 := ⟨_, rfl⟩
        rw [← eI2]
        have f2 : ∀ p k, ¬ (p = 43 ∧ k = 6) → I2 p k = I1 p k := fun p k hp => by rw [eI2, z_u_no _ _ hp]
        have eb : baB I2 fo = baB I fo := funext fun w => (baB_kr (fun p k hp => f2 p k (by omega)) fo w).trans (baB_kr (fun p k hp => f1 p k (by omega)) fo w)
        refine zOk.imp (lp_lay (I0 := I2) (fo := fo) (p := p) hR1 hS hn hn8 hmw hm24 h11 r2 r3 hq hq2 hh m 0 I2 J1 _ _ _ _ (by omega) ⟨hw1.keep h8 hq2 fun p k _ h2 => f2 p k (by omega), fun _ _ _ => rfl, fun k hk => absurd hk (Nat.not_lt_zero _)⟩) ?_
        rintro _ _ ⟨rfl, I3, J3, rfl, hw3, hf3, hl3⟩
        rw [eb] at hl3
        refine ⟨rfl, I3, J3, rfl, hw3, fun p k h1 h2 => (hf3 p k h1).trans ((f2 p k (by omega)).trans (f1 p k (by omega))), hl3, fun k => ?_, fun k => ?_⟩
        · rw [hf3 43 6 (by omega), eI2, z_u_same]
          exact absurd k (fun k => k.2.2 b1)
        · rw [hf3 43 6 (by omega), eI2, z_u_same]
      · refine k_aload f63_0 rfl ?_
        refine k_aloadn f63_1 rfl ?_
        refine k_putN f63_2 hS.o43 rfl ?_
        refine k_aload f63_5 rfl ?_
        refine k_aload f63_6 rfl ?_
        refine k_putR f63_7 hS.o43 rfl ?_
        obtain ⟨R1, eR1⟩ : ∃ R1, R1 = z_u (z_u R 43 2 none) 43 3 (some q) := ⟨_, rfl⟩
        rw [← eR1]
        have hR1 : Rs R1 := eR1 ▸ rs43 hS hR _ _
        have fR : ∀ p k, p ≠ 43 → R1 p k = R p k := fun p k hp => by rw [eR1, z_u_p _ _ _ _ hp, z_u_p _ _ _ _ hp]
        have hst1 : StR I R1 G 17 pl s := hst.keep h8 Gk.rfl (fun _ _ _ _ => rfl) (fun p k _ hp => fR p k (by omega))
        have hbr1 := hbr.rr (R' := R1) fun p k hp => fR p k (by omega)
        have r2 : R1 43 2 = none := by rw [eR1, z_u_k _ _ _ (by omega), z_u_same]
        have r3 : R1 43 3 = some q := by rw [eR1, z_u_same]
        refine k_aload f63_10 rfl ?_
        refine k_iload f63_11 rfl ?_
        refine k_putI f63_12 hS.o43 rfl ?_
        refine k_aload f63_15 rfl ?_
        refine k_iload f63_16 rfl ?_
        refine k_putI f63_18 hS.o43 rfl ?_
        obtain ⟨I1, eI1⟩ : ∃ I1, I1 = z_u (z_u I 43 4 nu) 43 5 fr := ⟨_, rfl⟩
        rw [← eI1]
        have f1 : ∀ p k, ¬ (p = 43 ∧ (k = 4 ∨ k = 5)) → I1 p k = I p k := fun p k hp => by rw [eI1, z_u_no _ _ (by omega), z_u_no _ _ (by omega)]
        have hw1 : WB I1 R1 G pl q s none fo nu wo sp fr p h := ⟨hst1.keep h8 Gk.rfl (fun p k _ hp => f1 p k (by omega)) (fun _ _ _ _ => rfl), hbr1.kr (fun p k hp => f1 p k (by omega)), (f1 _ _ (by omega)).trans q0, (f1 _ _ (by omega)).trans q1, (f1 _ _ (by omega)).trans q2, (f1 _ _ (by omega)).trans q3, by rw [eI1, z_u_k _ _ _ (by omega), z_u_same], by rw [eI1, z_u_same]⟩
        refine k_aload f63_21 rfl ?_
        refine k_aload f63_22 rfl ?_
        refine k_iload f63_23 rfl ?_
        refine e_v (as := [.int (fr)]) (rest := [.ref 43]) f63_25 hS.o43 rfl rfl rfl (s_isGood (sp := sp) hR1 hS hw1.1 r3 hq hw1.2.2.2.2.1) ?_
        refine k_beq f63_28 (fun h_ => absurd (g1) h_) (fun _ => ?_)
        refine k_aload f63_31 rfl ?_
        refine k_gI (w := fe) f63_32 hq rfl ((f1 _ _ (by omega)).trans q4) ?_
        refine k_if_eq f63_35 (fun h_ => absurd h_ (hF)) (fun _ => ?_)
        refine k_aload f63_38 rfl ?_
        refine k_aload f63_39 rfl ?_
        refine k_gI (w := nI p) f63_40 hq rfl hw1.2.2.2.1 ?_
        refine k_aload f63_43 rfl ?_
        refine k_gI (w := nI h) f63_44 hq rfl hw1.2.2.2.2.2.1 ?_
        refine k_iload f63_47 rfl ?_
        refine k_callv (as := [.int (fr), .int (nI h), .int (nI p)]) (rest := [.ref 43]) f63_49 hS.o43 rfl rfl rfl rfl (q_may (b := p) (k := h) (th := fr) hR1 hS hw1.1 hn hn8 hw1.2.1 r2 r3 hq hw1.2.2.1 hw1.2.2.2.2.1 hw1.2.2.2.2.2.1 hh hw1.2.2.2.2.2.2.1 hh) ?_
        rintro _ _ ⟨rfl, J1, rfl⟩
        refine k_beq f63_52 (fun h_ => absurd ((fun k => b1 ((baB_kr (fun p k hp => f1 p k (by omega)) fo (gW s n nu wo (fr - sp) h True (nI p) (nI p) fr)).symm.trans k))) h_) (fun _ => ?_)
        refine k_iconst (v := 1) f63_55 rfl ?_
        refine k_goto f63_56 ?_
        refine k_putZ f63_60 hS.o43 rfl (by decide) ?_
        refine k_aload f63_63 rfl ?_
        refine k_getr (q := 17) f63_64 hS.o43 rfl hR1.r43_1 ?_
        refine k_getr (q := pl) f63_67 hS.o17 rfl hst1.2.1 ?_
        refine k_astore (L' := [.ref 43, .null, .ref q, .int (nu), .int (fr), .ref pl, zU, zU, zU, zU]) f63_70 rfl rfl ?_
        refine k_iconst (v := 0) f63_72 rfl ?_
        refine k_istore (L' := [.ref 43, .null, .ref q, .int (nu), .int (fr), .ref pl, .int (0), zU, zU, zU]) f63_73 rfl rfl ?_
        obtain ⟨I2, eI2⟩ : ∃ I2, I2 = z_u I1 43 6 1 := ⟨_, rfl⟩
        rw [← eI2]
        have f2 : ∀ p k, ¬ (p = 43 ∧ k = 6) → I2 p k = I1 p k := fun p k hp => by rw [eI2, z_u_no _ _ hp]
        have eb : baB I2 fo = baB I fo := funext fun w => (baB_kr (fun p k hp => f2 p k (by omega)) fo w).trans (baB_kr (fun p k hp => f1 p k (by omega)) fo w)
        refine zOk.imp (lp_lay (I0 := I2) (fo := fo) (p := p) hR1 hS hn hn8 hmw hm24 h11 r2 r3 hq hq2 hh m 0 I2 J1 _ _ _ _ (by omega) ⟨hw1.keep h8 hq2 fun p k _ h2 => f2 p k (by omega), fun _ _ _ => rfl, fun k hk => absurd hk (Nat.not_lt_zero _)⟩) ?_
        rintro _ _ ⟨rfl, I3, J3, rfl, hw3, hf3, hl3⟩
        rw [eb] at hl3
        refine ⟨rfl, I3, J3, rfl, hw3, fun p k h1 h2 => (hf3 p k h1).trans ((f2 p k (by omega)).trans (f1 p k (by omega))), hl3, fun k => ?_, fun k => ?_⟩
        · rw [hf3 43 6 (by omega), eI2, z_u_same]
        · rw [hf3 43 6 (by omega), eI2, z_u_same]
          exact absurd (⟨g1, hF, b1⟩) k
  · refine k_aload f63_0 rfl ?_
    refine k_aloadn f63_1 rfl ?_
    refine k_putN f63_2 hS.o43 rfl ?_
    refine k_aload f63_5 rfl ?_
    refine k_aload f63_6 rfl ?_
    refine k_putR f63_7 hS.o43 rfl ?_
    obtain ⟨R1, eR1⟩ : ∃ R1, R1 = z_u (z_u R 43 2 none) 43 3 (some q) := ⟨_, rfl⟩
    rw [← eR1]
    have hR1 : Rs R1 := eR1 ▸ rs43 hS hR _ _
    have fR : ∀ p k, p ≠ 43 → R1 p k = R p k := fun p k hp => by rw [eR1, z_u_p _ _ _ _ hp, z_u_p _ _ _ _ hp]
    have hst1 : StR I R1 G 17 pl s := hst.keep h8 Gk.rfl (fun _ _ _ _ => rfl) (fun p k _ hp => fR p k (by omega))
    have hbr1 := hbr.rr (R' := R1) fun p k hp => fR p k (by omega)
    have r2 : R1 43 2 = none := by rw [eR1, z_u_k _ _ _ (by omega), z_u_same]
    have r3 : R1 43 3 = some q := by rw [eR1, z_u_same]
    refine k_aload f63_10 rfl ?_
    refine k_iload f63_11 rfl ?_
    refine k_putI f63_12 hS.o43 rfl ?_
    refine k_aload f63_15 rfl ?_
    refine k_iload f63_16 rfl ?_
    refine k_putI f63_18 hS.o43 rfl ?_
    obtain ⟨I1, eI1⟩ : ∃ I1, I1 = z_u (z_u I 43 4 nu) 43 5 fr := ⟨_, rfl⟩
    rw [← eI1]
    have f1 : ∀ p k, ¬ (p = 43 ∧ (k = 4 ∨ k = 5)) → I1 p k = I p k := fun p k hp => by rw [eI1, z_u_no _ _ (by omega), z_u_no _ _ (by omega)]
    have hw1 : WB I1 R1 G pl q s none fo nu wo sp fr p h := ⟨hst1.keep h8 Gk.rfl (fun p k _ hp => f1 p k (by omega)) (fun _ _ _ _ => rfl), hbr1.kr (fun p k hp => f1 p k (by omega)), (f1 _ _ (by omega)).trans q0, (f1 _ _ (by omega)).trans q1, (f1 _ _ (by omega)).trans q2, (f1 _ _ (by omega)).trans q3, by rw [eI1, z_u_k _ _ _ (by omega), z_u_same], by rw [eI1, z_u_same]⟩
    refine k_aload f63_21 rfl ?_
    refine k_aload f63_22 rfl ?_
    refine k_iload f63_23 rfl ?_
    refine e_v (as := [.int (fr)]) (rest := [.ref 43]) f63_25 hS.o43 rfl rfl rfl (s_isGood (sp := sp) hR1 hS hw1.1 r3 hq hw1.2.2.2.2.1) ?_
    refine k_beq f63_28 (fun _ => ?_) (fun h_ => (absurd h_ (g1)))
    refine k_iconst (v := 0) f63_59 rfl ?_
    refine k_putZ f63_60 hS.o43 rfl (by decide) ?_
    refine k_aload f63_63 rfl ?_
    refine k_getr (q := 17) f63_64 hS.o43 rfl hR1.r43_1 ?_
    refine k_getr (q := pl) f63_67 hS.o17 rfl hst1.2.1 ?_
    refine k_astore (L' := [.ref 43, .null, .ref q, .int (nu), .int (fr), .ref pl, zU, zU, zU, zU]) f63_70 rfl rfl ?_
    refine k_iconst (v := 0) f63_72 rfl ?_
    refine k_istore (L' := [.ref 43, .null, .ref q, .int (nu), .int (fr), .ref pl, .int (0), zU, zU, zU]) f63_73 rfl rfl ?_
    obtain ⟨I2, eI2⟩ : ∃ I2, I2 = z_u I1 43 6 0 := ⟨_, rfl⟩
    rw [← eI2]
    have f2 : ∀ p k, ¬ (p = 43 ∧ k = 6) → I2 p k = I1 p k := fun p k hp => by rw [eI2, z_u_no _ _ hp]
    have eb : baB I2 fo = baB I fo := funext fun w => (baB_kr (fun p k hp => f2 p k (by omega)) fo w).trans (baB_kr (fun p k hp => f1 p k (by omega)) fo w)
    refine zOk.imp (lp_lay (I0 := I2) (fo := fo) (p := p) hR1 hS hn hn8 hmw hm24 h11 r2 r3 hq hq2 hh m 0 I2 J _ _ _ _ (by omega) ⟨hw1.keep h8 hq2 fun p k _ h2 => f2 p k (by omega), fun _ _ _ => rfl, fun k hk => absurd hk (Nat.not_lt_zero _)⟩) ?_
    rintro _ _ ⟨rfl, I3, J3, rfl, hw3, hf3, hl3⟩
    rw [eb] at hl3
    refine ⟨rfl, I3, J3, rfl, hw3, fun p k h1 h2 => (hf3 p k h1).trans ((f2 p k (by omega)).trans (f1 p k (by omega))), hl3, fun k => ?_, fun k => ?_⟩
    · rw [hf3 43 6 (by omega), eI2, z_u_same]
      exact absurd k (fun k => g1 k.1)
    · rw [hf3 43 6 (by omega), eI2, z_u_same]
theorem q_lay1 {x : Nat × (Nat → Int32)} {d : Nat} {I : Nat → Nat → Int32} {J : Nat → Nat → Int64} {R : Nat → Nat → Option Nat} {G : zG} {pl q n m h p : Nat} {s : Nat → Int32} {r : Nat} {fo nu wo sp fr fe : Int32} (hR : Rs R) (hS : Sh G) (hst : StR I R G 17 pl s) (hn : s 1 = nI n) (hn8 : n ≤ 8) (hmw : MW s m) (hm24 : m ≤ 24) (h11 : cl (s 0) < 11) (hbr : BR I R G (some r) fo) (hq : zo G q 1) (hq2 : q = 38 ∨ (19 ≤ q ∧ q ≤ 26)) (q0 : I q 0 = wo) (q1 : I q 1 = nI p) (q2 : I q 2 = sp) (q3 : I q 3 = nI h) (q4 : I q 4 = fe) (hh : h < 1024) : zOk x (d + 5) 63 0 [.ref 43, .ref r, .ref q, .int (nu), .int (fr), zU, zU, zU, zU, zU] [] (I, J, R, G) (fun v mm => v = none ∧ ∃ I' J', mm = (I', J', z_u (z_u R 43 2 (some r)) 43 3 (some q), G) ∧ WB I' (z_u (z_u R 43 2 (some r)) 43 3 (some q)) G pl q s (some r) fo nu wo sp fr p h ∧ (∀ p k, ¬ (p = 44 ∨ p = 45) → ¬ (p = 43 ∧ (k = 4 ∨ k = 5 ∨ k = 6)) → I' p k = I p k) ∧ WL (baB I fo) I' s n m nu wo sp fr h m ∧ (hoN (baB I fo) s n nu wo sp fr fe p h → I' 43 6 = 1) ∧ (¬ hoN (baB I fo) s n nu wo sp fr fe p h → I' 43 6 = 0)) := by
  have hpl := hst.2.2.1.1
  have h8 : cl (s 1) ≤ 8 := by rw [hn, cl_nI (by omega)]; exact hn8
  by_cases g1 : fr - sp ≤ s 7
  · by_cases hF : fe = 0
    · refine k_aload f63_0 rfl ?_
      refine k_aload f63_1 rfl ?_
      refine k_putR f63_2 hS.o43 rfl ?_
      refine k_aload f63_5 rfl ?_
      refine k_aload f63_6 rfl ?_
      refine k_putR f63_7 hS.o43 rfl ?_
      obtain ⟨R1, eR1⟩ : ∃ R1, R1 = z_u (z_u R 43 2 (some r)) 43 3 (some q) := ⟨_, rfl⟩
      rw [← eR1]
      have hR1 : Rs R1 := eR1 ▸ rs43 hS hR _ _
      have fR : ∀ p k, p ≠ 43 → R1 p k = R p k := fun p k hp => by rw [eR1, z_u_p _ _ _ _ hp, z_u_p _ _ _ _ hp]
      have hst1 : StR I R1 G 17 pl s := hst.keep h8 Gk.rfl (fun _ _ _ _ => rfl) (fun p k _ hp => fR p k (by omega))
      have hbr1 := hbr.rr (R' := R1) fun p k hp => fR p k (by omega)
      have r2 : R1 43 2 = (some r) := by rw [eR1, z_u_k _ _ _ (by omega), z_u_same]
      have r3 : R1 43 3 = some q := by rw [eR1, z_u_same]
      refine k_aload f63_10 rfl ?_
      refine k_iload f63_11 rfl ?_
      refine k_putI f63_12 hS.o43 rfl ?_
      refine k_aload f63_15 rfl ?_
      refine k_iload f63_16 rfl ?_
      refine k_putI f63_18 hS.o43 rfl ?_
      obtain ⟨I1, eI1⟩ : ∃ I1, I1 = z_u (z_u I 43 4 nu) 43 5 fr := ⟨_, rfl⟩
      rw [← eI1]
      have f1 : ∀ p k, ¬ (p = 43 ∧ (k = 4 ∨ k = 5)) → I1 p k = I p k := fun p k hp => by rw [eI1, z_u_no _ _ (by omega), z_u_no _ _ (by omega)]
      have hw1 : WB I1 R1 G pl q s (some r) fo nu wo sp fr p h := ⟨hst1.keep h8 Gk.rfl (fun p k _ hp => f1 p k (by omega)) (fun _ _ _ _ => rfl), hbr1.kr (fun p k hp => f1 p k (by omega)), (f1 _ _ (by omega)).trans q0, (f1 _ _ (by omega)).trans q1, (f1 _ _ (by omega)).trans q2, (f1 _ _ (by omega)).trans q3, by rw [eI1, z_u_k _ _ _ (by omega), z_u_same], by rw [eI1, z_u_same]⟩
      refine k_aload f63_21 rfl ?_
      refine k_aload f63_22 rfl ?_
      refine k_iload f63_23 rfl ?_
      refine e_v (as := [.int (fr)]) (rest := [.ref 43]) f63_25 hS.o43 rfl rfl rfl (s_isGood (sp := sp) hR1 hS hw1.1 r3 hq hw1.2.2.2.2.1) ?_
      refine k_beq f63_28 (fun h_ => absurd (g1) h_) (fun _ => ?_)
      refine k_aload f63_31 rfl ?_
      refine k_gI (w := fe) f63_32 hq rfl ((f1 _ _ (by omega)).trans q4) ?_
      refine k_if_eq f63_35 (fun _ => ?_) (fun h_ => absurd (hF) h_)
      refine k_iconst (v := 0) f63_59 rfl ?_
      refine k_putZ f63_60 hS.o43 rfl (by decide) ?_
      refine k_aload f63_63 rfl ?_
      refine k_getr (q := 17) f63_64 hS.o43 rfl hR1.r43_1 ?_
      refine k_getr (q := pl) f63_67 hS.o17 rfl hst1.2.1 ?_
      refine k_astore (L' := [.ref 43, .ref r, .ref q, .int (nu), .int (fr), .ref pl, zU, zU, zU, zU]) f63_70 rfl rfl ?_
      refine k_iconst (v := 0) f63_72 rfl ?_
      refine k_istore (L' := [.ref 43, .ref r, .ref q, .int (nu), .int (fr), .ref pl, .int (0), zU, zU, zU]) f63_73 rfl rfl ?_
      obtain ⟨I2, eI2⟩ : ∃ I2, I2 = z_u I1 43 6 0 := ⟨_, rfl⟩
      rw [← eI2]
      have f2 : ∀ p k, ¬ (p = 43 ∧ k = 6) → I2 p k = I1 p k := fun p k hp => by rw [eI2, z_u_no _ _ hp]
      have eb : baB I2 fo = baB I fo := funext fun w => (baB_kr (fun p k hp => f2 p k (by omega)) fo w).trans (baB_kr (fun p k hp => f1 p k (by omega)) fo w)
      refine zOk.imp (lp_lay (I0 := I2) (fo := fo) (p := p) hR1 hS hn hn8 hmw hm24 h11 r2 r3 hq hq2 hh m 0 I2 J _ _ _ _ (by omega) ⟨hw1.keep h8 hq2 fun p k _ h2 => f2 p k (by omega), fun _ _ _ => rfl, fun k hk => absurd hk (Nat.not_lt_zero _)⟩) ?_
      rintro _ _ ⟨rfl, I3, J3, rfl, hw3, hf3, hl3⟩
      rw [eb] at hl3
      refine ⟨rfl, I3, J3, rfl, hw3, fun p k h1 h2 => (hf3 p k h1).trans ((f2 p k (by omega)).trans (f1 p k (by omega))), hl3, fun k => ?_, fun k => ?_⟩
      · rw [hf3 43 6 (by omega), eI2, z_u_same]
        exact absurd k (fun k => k.2.1 hF)
      · rw [hf3 43 6 (by omega), eI2, z_u_same]
    · by_cases b1 : baB I fo (gW s n nu wo (fr - sp) h True (nI p) (nI p) fr) = true
      · refine k_aload f63_0 rfl ?_
        refine k_aload f63_1 rfl ?_
        refine k_putR f63_2 hS.o43 rfl ?_
        refine k_aload f63_5 rfl ?_
        refine k_aload f63_6 rfl ?_
        refine k_putR f63_7 hS.o43 rfl ?_
        obtain ⟨R1, eR1⟩ : ∃ R1, R1 = z_u (z_u R 43 2 (some r)) 43 3 (some q) := ⟨_, rfl⟩
        rw [← eR1]
        have hR1 : Rs R1 := eR1 ▸ rs43 hS hR _ _
        have fR : ∀ p k, p ≠ 43 → R1 p k = R p k := fun p k hp => by rw [eR1, z_u_p _ _ _ _ hp, z_u_p _ _ _ _ hp]
        have hst1 : StR I R1 G 17 pl s := hst.keep h8 Gk.rfl (fun _ _ _ _ => rfl) (fun p k _ hp => fR p k (by omega))
        have hbr1 := hbr.rr (R' := R1) fun p k hp => fR p k (by omega)
        have r2 : R1 43 2 = (some r) := by rw [eR1, z_u_k _ _ _ (by omega), z_u_same]
        have r3 : R1 43 3 = some q := by rw [eR1, z_u_same]
        refine k_aload f63_10 rfl ?_
        refine k_iload f63_11 rfl ?_
        refine k_putI f63_12 hS.o43 rfl ?_
        refine k_aload f63_15 rfl ?_
        refine k_iload f63_16 rfl ?_
        refine k_putI f63_18 hS.o43 rfl ?_
        obtain ⟨I1, eI1⟩ : ∃ I1, I1 = z_u (z_u I 43 4 nu) 43 5 fr := ⟨_, rfl⟩
        rw [← eI1]
        have f1 : ∀ p k, ¬ (p = 43 ∧ (k = 4 ∨ k = 5)) → I1 p k = I p k := fun p k hp => by rw [eI1, z_u_no _ _ (by omega), z_u_no _ _ (by omega)]
        have hw1 : WB I1 R1 G pl q s (some r) fo nu wo sp fr p h := ⟨hst1.keep h8 Gk.rfl (fun p k _ hp => f1 p k (by omega)) (fun _ _ _ _ => rfl), hbr1.kr (fun p k hp => f1 p k (by omega)), (f1 _ _ (by omega)).trans q0, (f1 _ _ (by omega)).trans q1, (f1 _ _ (by omega)).trans q2, (f1 _ _ (by omega)).trans q3, by rw [eI1, z_u_k _ _ _ (by omega), z_u_same], by rw [eI1, z_u_same]⟩
        refine k_aload f63_21 rfl ?_
        refine k_aload f63_22 rfl ?_
        refine k_iload f63_23 rfl ?_
        refine e_v (as := [.int (fr)]) (rest := [.ref 43]) f63_25 hS.o43 rfl rfl rfl (s_isGood (sp := sp) hR1 hS hw1.1 r3 hq hw1.2.2.2.2.1) ?_
        refine k_beq f63_28 (fun h_ => absurd (g1) h_) (fun _ => ?_)
        refine k_aload f63_31 rfl ?_
        refine k_gI (w := fe) f63_32 hq rfl ((f1 _ _ (by omega)).trans q4) ?_
        refine k_if_eq f63_35 (fun h_ => absurd h_ (hF)) (fun _ => ?_)
        refine k_aload f63_38 rfl ?_
        refine k_aload f63_39 rfl ?_
        refine k_gI (w := nI p) f63_40 hq rfl hw1.2.2.2.1 ?_
        refine k_aload f63_43 rfl ?_
        refine k_gI (w := nI h) f63_44 hq rfl hw1.2.2.2.2.2.1 ?_
        refine k_iload f63_47 rfl ?_
        refine k_callv (as := [.int (fr), .int (nI h), .int (nI p)]) (rest := [.ref 43]) f63_49 hS.o43 rfl rfl rfl rfl (q_may (b := p) (k := h) (th := fr) hR1 hS hw1.1 hn hn8 hw1.2.1 r2 r3 hq hw1.2.2.1 hw1.2.2.2.2.1 hw1.2.2.2.2.2.1 hh hw1.2.2.2.2.2.2.1 hh) ?_
        rintro _ _ ⟨rfl, J1, rfl⟩
        refine k_beq f63_52 (fun _ => ?_) (fun h_ => (absurd h_ ((fun k => k ((baB_kr (fun p k hp => f1 p k (by omega)) fo (gW s n nu wo (fr - sp) h True (nI p) (nI p) fr)).trans b1)))))
        refine k_iconst (v := 0) f63_59 rfl ?_
        refine k_putZ f63_60 hS.o43 rfl (by decide) ?_
        refine k_aload f63_63 rfl ?_
        refine k_getr (q := 17) f63_64 hS.o43 rfl hR1.r43_1 ?_
        refine k_getr (q := pl) f63_67 hS.o17 rfl hst1.2.1 ?_
        refine k_astore (L' := [.ref 43, .ref r, .ref q, .int (nu), .int (fr), .ref pl, zU, zU, zU, zU]) f63_70 rfl rfl ?_
        refine k_iconst (v := 0) f63_72 rfl ?_
        refine k_istore (L' := [.ref 43, .ref r, .ref q, .int (nu), .int (fr), .ref pl, .int (0), zU, zU, zU]) f63_73 rfl rfl ?_
        obtain ⟨I2, eI2⟩ : ∃ I2, I2 = z_u I1 43 6 0 := ⟨_, rfl⟩
        rw [← eI2]
        have f2 : ∀ p k, ¬ (p = 43 ∧ k = 6) → I2 p k = I1 p k := fun p k hp => by rw [eI2, z_u_no _ _ hp]
        have eb : baB I2 fo = baB I fo := funext fun w => (baB_kr (fun p k hp => f2 p k (by omega)) fo w).trans (baB_kr (fun p k hp => f1 p k (by omega)) fo w)
        refine zOk.imp (lp_lay (I0 := I2) (fo := fo) (p := p) hR1 hS hn hn8 hmw hm24 h11 r2 r3 hq hq2 hh m 0 I2 J1 _ _ _ _ (by omega) ⟨hw1.keep h8 hq2 fun p k _ h2 => f2 p k (by omega), fun _ _ _ => rfl, fun k hk => absurd hk (Nat.not_lt_zero _)⟩) ?_
        rintro _ _ ⟨rfl, I3, J3, rfl, hw3, hf3, hl3⟩
        rw [eb] at hl3
        refine ⟨rfl, I3, J3, rfl, hw3, fun p k h1 h2 => (hf3 p k h1).trans ((f2 p k (by omega)).trans (f1 p k (by omega))), hl3, fun k => ?_, fun k => ?_⟩
        · rw [hf3 43 6 (by omega), eI2, z_u_same]
          exact absurd k (fun k => k.2.2 b1)
        · rw [hf3 43 6 (by omega), eI2, z_u_same]
      · refine k_aload f63_0 rfl ?_
        refine k_aload f63_1 rfl ?_
        refine k_putR f63_2 hS.o43 rfl ?_
        refine k_aload f63_5 rfl ?_
        refine k_aload f63_6 rfl ?_
        refine k_putR f63_7 hS.o43 rfl ?_
        obtain ⟨R1, eR1⟩ : ∃ R1, R1 = z_u (z_u R 43 2 (some r)) 43 3 (some q) := ⟨_, rfl⟩
        rw [← eR1]
        have hR1 : Rs R1 := eR1 ▸ rs43 hS hR _ _
        have fR : ∀ p k, p ≠ 43 → R1 p k = R p k := fun p k hp => by rw [eR1, z_u_p _ _ _ _ hp, z_u_p _ _ _ _ hp]
        have hst1 : StR I R1 G 17 pl s := hst.keep h8 Gk.rfl (fun _ _ _ _ => rfl) (fun p k _ hp => fR p k (by omega))
        have hbr1 := hbr.rr (R' := R1) fun p k hp => fR p k (by omega)
        have r2 : R1 43 2 = (some r) := by rw [eR1, z_u_k _ _ _ (by omega), z_u_same]
        have r3 : R1 43 3 = some q := by rw [eR1, z_u_same]
        refine k_aload f63_10 rfl ?_
        refine k_iload f63_11 rfl ?_
        refine k_putI f63_12 hS.o43 rfl ?_
        refine k_aload f63_15 rfl ?_
        refine k_iload f63_16 rfl ?_
        refine k_putI f63_18 hS.o43 rfl ?_
        obtain ⟨I1, eI1⟩ : ∃ I1, I1 = z_u (z_u I 43 4 nu) 43 5 fr := ⟨_, rfl⟩
        rw [← eI1]
        have f1 : ∀ p k, ¬ (p = 43 ∧ (k = 4 ∨ k = 5)) → I1 p k = I p k := fun p k hp => by rw [eI1, z_u_no _ _ (by omega), z_u_no _ _ (by omega)]
        have hw1 : WB I1 R1 G pl q s (some r) fo nu wo sp fr p h := ⟨hst1.keep h8 Gk.rfl (fun p k _ hp => f1 p k (by omega)) (fun _ _ _ _ => rfl), hbr1.kr (fun p k hp => f1 p k (by omega)), (f1 _ _ (by omega)).trans q0, (f1 _ _ (by omega)).trans q1, (f1 _ _ (by omega)).trans q2, (f1 _ _ (by omega)).trans q3, by rw [eI1, z_u_k _ _ _ (by omega), z_u_same], by rw [eI1, z_u_same]⟩
        refine k_aload f63_21 rfl ?_
        refine k_aload f63_22 rfl ?_
        refine k_iload f63_23 rfl ?_
        refine e_v (as := [.int (fr)]) (rest := [.ref 43]) f63_25 hS.o43 rfl rfl rfl (s_isGood (sp := sp) hR1 hS hw1.1 r3 hq hw1.2.2.2.2.1) ?_
        refine k_beq f63_28 (fun h_ => absurd (g1) h_) (fun _ => ?_)
        refine k_aload f63_31 rfl ?_
        refine k_gI (w := fe) f63_32 hq rfl ((f1 _ _ (by omega)).trans q4) ?_
        refine k_if_eq f63_35 (fun h_ => absurd h_ (hF)) (fun _ => ?_)
        refine k_aload f63_38 rfl ?_
        refine k_aload f63_39 rfl ?_
        refine k_gI (w := nI p) f63_40 hq rfl hw1.2.2.2.1 ?_
        refine k_aload f63_43 rfl ?_
        refine k_gI (w := nI h) f63_44 hq rfl hw1.2.2.2.2.2.1 ?_
        refine k_iload f63_47 rfl ?_
        refine k_callv (as := [.int (fr), .int (nI h), .int (nI p)]) (rest := [.ref 43]) f63_49 hS.o43 rfl rfl rfl rfl (q_may (b := p) (k := h) (th := fr) hR1 hS hw1.1 hn hn8 hw1.2.1 r2 r3 hq hw1.2.2.1 hw1.2.2.2.2.1 hw1.2.2.2.2.2.1 hh hw1.2.2.2.2.2.2.1 hh) ?_
        rintro _ _ ⟨rfl, J1, rfl⟩
        refine k_beq f63_52 (fun h_ => absurd ((fun k => b1 ((baB_kr (fun p k hp => f1 p k (by omega)) fo (gW s n nu wo (fr - sp) h True (nI p) (nI p) fr)).symm.trans k))) h_) (fun _ => ?_)
        refine k_iconst (v := 1) f63_55 rfl ?_
        refine k_goto f63_56 ?_
        refine k_putZ f63_60 hS.o43 rfl (by decide) ?_
        refine k_aload f63_63 rfl ?_
        refine k_getr (q := 17) f63_64 hS.o43 rfl hR1.r43_1 ?_
        refine k_getr (q := pl) f63_67 hS.o17 rfl hst1.2.1 ?_
        refine k_astore (L' := [.ref 43, .ref r, .ref q, .int (nu), .int (fr), .ref pl, zU, zU, zU, zU]) f63_70 rfl rfl ?_
        refine k_iconst (v := 0) f63_72 rfl ?_
        refine k_istore (L' := [.ref 43, .ref r, .ref q, .int (nu), .int (fr), .ref pl, .int (0), zU, zU, zU]) f63_73 rfl rfl ?_
        obtain ⟨I2, eI2⟩ : ∃ I2, I2 = z_u I1 43 6 1 := ⟨_, rfl⟩
        rw [← eI2]
        have f2 : ∀ p k, ¬ (p = 43 ∧ k = 6) → I2 p k = I1 p k := fun p k hp => by rw [eI2, z_u_no _ _ hp]
        have eb : baB I2 fo = baB I fo := funext fun w => (baB_kr (fun p k hp => f2 p k (by omega)) fo w).trans (baB_kr (fun p k hp => f1 p k (by omega)) fo w)
        refine zOk.imp (lp_lay (I0 := I2) (fo := fo) (p := p) hR1 hS hn hn8 hmw hm24 h11 r2 r3 hq hq2 hh m 0 I2 J1 _ _ _ _ (by omega) ⟨hw1.keep h8 hq2 fun p k _ h2 => f2 p k (by omega), fun _ _ _ => rfl, fun k hk => absurd hk (Nat.not_lt_zero _)⟩) ?_
        rintro _ _ ⟨rfl, I3, J3, rfl, hw3, hf3, hl3⟩
        rw [eb] at hl3
        refine ⟨rfl, I3, J3, rfl, hw3, fun p k h1 h2 => (hf3 p k h1).trans ((f2 p k (by omega)).trans (f1 p k (by omega))), hl3, fun k => ?_, fun k => ?_⟩
        · rw [hf3 43 6 (by omega), eI2, z_u_same]
        · rw [hf3 43 6 (by omega), eI2, z_u_same]
          exact absurd (⟨g1, hF, b1⟩) k
  · refine k_aload f63_0 rfl ?_
    refine k_aload f63_1 rfl ?_
    refine k_putR f63_2 hS.o43 rfl ?_
    refine k_aload f63_5 rfl ?_
    refine k_aload f63_6 rfl ?_
    refine k_putR f63_7 hS.o43 rfl ?_
    obtain ⟨R1, eR1⟩ : ∃ R1, R1 = z_u (z_u R 43 2 (some r)) 43 3 (some q) := ⟨_, rfl⟩
    rw [← eR1]
    have hR1 : Rs R1 := eR1 ▸ rs43 hS hR _ _
    have fR : ∀ p k, p ≠ 43 → R1 p k = R p k := fun p k hp => by rw [eR1, z_u_p _ _ _ _ hp, z_u_p _ _ _ _ hp]
    have hst1 : StR I R1 G 17 pl s := hst.keep h8 Gk.rfl (fun _ _ _ _ => rfl) (fun p k _ hp => fR p k (by omega))
    have hbr1 := hbr.rr (R' := R1) fun p k hp => fR p k (by omega)
    have r2 : R1 43 2 = (some r) := by rw [eR1, z_u_k _ _ _ (by omega), z_u_same]
    have r3 : R1 43 3 = some q := by rw [eR1, z_u_same]
    refine k_aload f63_10 rfl ?_
    refine k_iload f63_11 rfl ?_
    refine k_putI f63_12 hS.o43 rfl ?_
    refine k_aload f63_15 rfl ?_
    refine k_iload f63_16 rfl ?_
    refine k_putI f63_18 hS.o43 rfl ?_
    obtain ⟨I1, eI1⟩ : ∃ I1, I1 = z_u (z_u I 43 4 nu) 43 5 fr := ⟨_, rfl⟩
    rw [← eI1]
    have f1 : ∀ p k, ¬ (p = 43 ∧ (k = 4 ∨ k = 5)) → I1 p k = I p k := fun p k hp => by rw [eI1, z_u_no _ _ (by omega), z_u_no _ _ (by omega)]
    have hw1 : WB I1 R1 G pl q s (some r) fo nu wo sp fr p h := ⟨hst1.keep h8 Gk.rfl (fun p k _ hp => f1 p k (by omega)) (fun _ _ _ _ => rfl), hbr1.kr (fun p k hp => f1 p k (by omega)), (f1 _ _ (by omega)).trans q0, (f1 _ _ (by omega)).trans q1, (f1 _ _ (by omega)).trans q2, (f1 _ _ (by omega)).trans q3, by rw [eI1, z_u_k _ _ _ (by omega), z_u_same], by rw [eI1, z_u_same]⟩
    refine k_aload f63_21 rfl ?_
    refine k_aload f63_22 rfl ?_
    refine k_iload f63_23 rfl ?_
    refine e_v (as := [.int (fr)]) (rest := [.ref 43]) f63_25 hS.o43 rfl rfl rfl (s_isGood (sp := sp) hR1 hS hw1.1 r3 hq hw1.2.2.2.2.1) ?_
    refine k_beq f63_28 (fun _ => ?_) (fun h_ => (absurd h_ (g1)))
    refine k_iconst (v := 0) f63_59 rfl ?_
    refine k_putZ f63_60 hS.o43 rfl (by decide) ?_
    refine k_aload f63_63 rfl ?_
    refine k_getr (q := 17) f63_64 hS.o43 rfl hR1.r43_1 ?_
    refine k_getr (q := pl) f63_67 hS.o17 rfl hst1.2.1 ?_
    refine k_astore (L' := [.ref 43, .ref r, .ref q, .int (nu), .int (fr), .ref pl, zU, zU, zU, zU]) f63_70 rfl rfl ?_
    refine k_iconst (v := 0) f63_72 rfl ?_
    refine k_istore (L' := [.ref 43, .ref r, .ref q, .int (nu), .int (fr), .ref pl, .int (0), zU, zU, zU]) f63_73 rfl rfl ?_
    obtain ⟨I2, eI2⟩ : ∃ I2, I2 = z_u I1 43 6 0 := ⟨_, rfl⟩
    rw [← eI2]
    have f2 : ∀ p k, ¬ (p = 43 ∧ k = 6) → I2 p k = I1 p k := fun p k hp => by rw [eI2, z_u_no _ _ hp]
    have eb : baB I2 fo = baB I fo := funext fun w => (baB_kr (fun p k hp => f2 p k (by omega)) fo w).trans (baB_kr (fun p k hp => f1 p k (by omega)) fo w)
    refine zOk.imp (lp_lay (I0 := I2) (fo := fo) (p := p) hR1 hS hn hn8 hmw hm24 h11 r2 r3 hq hq2 hh m 0 I2 J _ _ _ _ (by omega) ⟨hw1.keep h8 hq2 fun p k _ h2 => f2 p k (by omega), fun _ _ _ => rfl, fun k hk => absurd hk (Nat.not_lt_zero _)⟩) ?_
    rintro _ _ ⟨rfl, I3, J3, rfl, hw3, hf3, hl3⟩
    rw [eb] at hl3
    refine ⟨rfl, I3, J3, rfl, hw3, fun p k h1 h2 => (hf3 p k h1).trans ((f2 p k (by omega)).trans (f1 p k (by omega))), hl3, fun k => ?_, fun k => ?_⟩
    · rw [hf3 43 6 (by omega), eI2, z_u_same]
      exact absurd k (fun k => g1 k.1)
    · rw [hf3 43 6 (by omega), eI2, z_u_same]
