/-! WAYS: one step, in the class. -/
/-- 0: shut, 1: among the hands, 2: home by a stranger; the giver's being among the hands apart -/
def sv (ba : (Nat → Int64) → Bool) (s : Nat → Int32) (n : Nat) (nu wo sp : Int32) (h a b : Nat) (th : Int32) : Nat :=
  if ba (gW s n nu wo (th - sp) h (¬ h.testBit b = true) (nI a) (nI b) th) = true then 0 else if h.testBit b = true then 1 else if ba (gW s n nu wo (th - sp) (h ||| 2 ^ b) True (nI b) (nI b) th) = true then 0 else 2
def stV (ba : (Nat → Int64) → Bool) (s : Nat → Int32) (n : Nat) (nu wo sp : Int32) (h a b : Nat) (th : Int32) : Nat := if h.testBit a = true then sv ba s n nu wo sp h a b th else 0
/-- the RULE that bars, if one is in force -/
def BR (I : Nat → Nat → Int32) (R : Nat → Nat → Option Nat) (G : zG) (bo : Option Nat) (f : Int32) : Prop := (f = -1 ∧ bo = none) ∨ ∃ t r, t < 6 ∧ f = nI t ∧ bo = some r ∧ RuR I R G t r
theorem told_w {J : Nat → Nat → Int64} {s : Nat → Int32} {n h : Nat} {nu wo ag g tk dy : Int32} {S : Prop} [Decidable S] : ∀ j, 1 ≤ j → j ≤ 9 → z_u (z_u (z_u (z_u (z_u (z_u (z_u (z_u (z_u J 40 1 ((nu).toInt64)) 40 2 ((wo).toInt64)) 40 3 ((ag).toInt64)) 40 9 ((dy).toInt64)) 40 7 ((g).toInt64)) 40 8 ((tk).toInt64)) 40 6 ((acc (fC s g) n).toInt64)) 40 4 ((nI (popc h)).toInt64)) 40 5 ((bI S).toInt64) 40 j = gW s n nu wo ag h S g tk dy (j - 1) := by
  intro j h1 h9
  have : j = 1 ∨ j = 2 ∨ j = 3 ∨ j = 4 ∨ j = 5 ∨ j = 6 ∨ j = 7 ∨ j = 8 ∨ j = 9 := by omega
  rcases this with rfl | rfl | rfl | rfl | rfl | rfl | rfl | rfl | rfl <;> simp [z_u, gW]
theorem s_isGood {x : Nat × (Nat → Int32)} {d : Nat} {I : Nat → Nat → Int32} {J : Nat → Nat → Int64} {R : Nat → Nat → Option Nat} {G : zG} {pl q : Nat} {s : Nat → Int32} {sp th : Int32} (hR : Rs R) (hS : Sh G) (hst : StR I R G 17 pl s) (r3 : R 43 3 = some q) (hq : zo G q 1) (q2 : I q 2 = sp) : zRn x d 64 [.ref 43, .int (th)] (I, J, R, G) (some (.int (bI (th - sp ≤ s 7)))) (I, J, R, G) := by
  show zOk x d 64 0 [.ref 43, .int (th)] [] _ _
  refine k_iload f64_0 rfl ?_
  refine k_aload f64_1 rfl ?_
  refine k_getr (q := q) f64_2 hS.o43 rfl r3 ?_
  refine k_gI (w := sp) f64_5 hq rfl q2 ?_
  refine k_isub f64_8 ?_
  refine k_aload f64_9 rfl ?_
  refine k_getr (q := 17) f64_10 hS.o43 rfl hR.r43_1 ?_
  refine k_getr (q := pl) f64_13 hS.o17 rfl hst.2.1 ?_
  refine k_gI (w := s 7) f64_16 hst.2.2.1.2.1 rfl hst.2.2.2.1.2.1 ?_
  refine k_ic_gt f64_19 (fun g0 => ?_) (fun g0 => ?_)
  · refine k_iconst (v := 0) f64_26 rfl ?_
    exact k_iret f64_27 (by decide) ⟨bI_f (Int32.not_le.mpr g0), rfl⟩
  · refine k_iconst (v := 1) f64_22 rfl ?_
    refine k_goto f64_23 ?_
    exact k_iret f64_27 (by decide) ⟨bI_t (Int32.not_lt.mp g0), rfl⟩
theorem q_may {x : Nat × (Nat → Int32)} {d : Nat} {I : Nat → Nat → Int32} {J : Nat → Nat → Int64} {R : Nat → Nat → Option Nat} {G : zG} {pl q n h p : Nat} {s : Nat → Int32} {bo : Option Nat} {f nu wo sp : Int32} (hR : Rs R) (hS : Sh G) (hst : StR I R G 17 pl s) (hn : s 1 = nI n) (hn8 : n ≤ 8) (hbr : BR I R G bo f) (r2 : R 43 2 = bo) (r3 : R 43 3 = some q) (hq : zo G q 1) (q0 : I q 0 = wo) (q2 : I q 2 = sp) (q3 : I q 3 = nI h) (hh : h < 1024) (w4 : I 43 4 = nu) {b k : Nat} {th : Int32} (hk : k < 1024) : zOk x (d + 3) 66 0 [.ref 43, .int (nI b), .int (nI k), .int (th)] [] (I, J, R, G) (fun v mm => v = some (.int (bI (¬ baB I f (gW s n nu wo (th - sp) k True (nI b) (nI b) th) = true))) ∧ ∃ J', mm = (I, J', R, G)) := by
  rcases hbr with ⟨rfl, rfl⟩ | ⟨t, r, ht6, rfl, rfl, hru⟩
  · refine k_aload f66_0 rfl ?_
    refine k_getn f66_1 hS.o43 rfl r2 ?_
    refine k_nonn f66_4 ?_
    refine k_iconst (v := 1) f66_7 rfl ?_
    exact k_iret f66_8 (by decide) ⟨bI_t (by simp [baB]), J, rfl⟩
  · have hz4 : zo G r 4 := by obtain ⟨_, _, _, _, _, h, _⟩ := hru; exact h.2.1
    have hso : soB I t (gW s n nu wo (th - sp) k True (nI b) (nI b) th) 1 = baB I (nI t) (gW s n nu wo (th - sp) k True (nI b) (nI b) th) := (baB_t I ht6 _).symm
    refine k_aload f66_0 rfl ?_
    refine k_getr (q := r) f66_1 hS.o43 rfl r2 ?_
    refine k_nonr f66_4 ?_
    refine k_aload f66_9 rfl ?_
    refine k_getr (q := 39) f66_10 hS.o43 rfl hR.r43_0 ?_
    refine k_aload f66_13 rfl ?_
    refine k_getr (q := q) f66_14 hS.o43 rfl r3 ?_
    refine k_aload f66_17 rfl ?_
    refine k_gI (w := nu) f66_18 hS.o43 rfl w4 ?_
    refine k_iload f66_21 rfl ?_
    refine e_v (as := [.int (th), .int (nu), .ref q]) (rest := []) f66_22 hS.o39 rfl rfl rfl (s_tellCoin hR hS hq q0 q2) ?_
    refine k_aload f66_25 rfl ?_
    refine k_getr (q := 39) f66_26 hS.o43 rfl hR.r43_0 ?_
    refine k_iload f66_29 rfl ?_
    refine k_iload f66_30 rfl ?_
    refine k_aload f66_31 rfl ?_
    refine k_getr (q := 17) f66_32 hS.o43 rfl hR.r43_1 ?_
    refine k_iload f66_35 rfl ?_
    refine e_v (as := [.int (nI b)]) (rest := [.int (nI b), .int (nI b), .ref 39]) f66_36 hS.o17 rfl rfl rfl (s_purse (st := 17) hst hn hn8) ?_
    refine e_v (as := [.int (acc (fC s (nI b)) n), .int (nI b), .int (nI b)]) (rest := []) f66_39 hS.o39 rfl rfl rfl (s_tellPeople hR hS) ?_
    refine k_aload f66_42 rfl ?_
    refine k_getr (q := 39) f66_43 hS.o43 rfl hR.r43_0 ?_
    refine k_iload f66_46 rfl ?_
    refine k_iconst (v := 1) f66_47 rfl ?_
    refine e_v (as := [.int (1), .int (nI k)]) (rest := []) f66_48 hS.o39 rfl rfl rfl (s_tellHands (h := k) (S := True) hR hS hk) ?_
    refine k_aload f66_51 rfl ?_
    refine k_getr (q := r) f66_52 hS.o43 rfl r2 ?_
    refine k_iconst (v := 2) f66_55 rfl ?_
    refine k_aload f66_56 rfl ?_
    refine k_getr (q := 39) f66_57 hS.o43 rfl hR.r43_0 ?_
    refine k_callv (as := [.ref 39, .int (2)]) (rest := []) f66_60 hz4 rfl rfl rfl rfl (q_some (kd := 1) (w := gW s n nu wo (th - sp) k True (nI b) (nI b) th) hR hS Kr.rfl hru (by decide) (told_w)) ?_
    rintro _ _ ⟨rfl, J1, rfl, _⟩
    rw [hso]
    refine k_bne f66_63 (fun g0 => ?_) (fun g0 => ?_)
    · refine k_iconst (v := 0) f66_70 rfl ?_
      exact k_iret f66_71 (by decide) ⟨bI_f (fun q => q g0), J1, rfl⟩
    · refine k_iconst (v := 1) f66_66 rfl ?_
      refine k_goto f66_67 ?_
      exact k_iret f66_71 (by decide) ⟨bI_t g0, J1, rfl⟩
