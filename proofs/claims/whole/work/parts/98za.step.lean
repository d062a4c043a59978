/-! WAYS: one step, in the class. -/
/-- 0: shut, 1: among the hands, 2: home by a stranger; the giver's being among the hands apart -/
def sv (ba : (Nat → Int64) → Bool) (s : Nat → Int32) (n : Nat) (nu wo sp : Int32) (h a b : Nat) (th : Int32) : Nat :=
  if ba (gW s n nu wo (th - sp) h (¬ h.testBit b = true) (nI a) (nI b) th) = true then 0 else if h.testBit b = true then 1 else if ba (gW s n nu wo (th - sp) (h ||| 2 ^ b) True (nI b) (nI b) th) = true then 0 else 2
def stV (ba : (Nat → Int64) → Bool) (s : Nat → Int32) (n : Nat) (nu wo sp : Int32) (h a b : Nat) (th : Int32) : Nat := if h.testBit a = true then sv ba s n nu wo sp h a b th else 0
/-- the RULE that bars, if one is in force -/
def BR (I : Nat → Nat → Int32) (R : Nat → Nat → Option Nat) (G : zG) (bo : Option Nat) (f : Int32) : Prop := (f = -1 ∧ bo = none) ∨ ∃ t r, t < 6 ∧ f = nI t ∧ bo = some r ∧ RuR I R G t r
theorem told_w {J : Nat → Nat → Int64} {s : Nat → Int32} {n h : Nat} {nu wo ag g tk dy : Int32} {S : Prop} [Decidable S] : ∀ j, 1 ≤ j → j ≤ 9 → z_u (z_u (z_u (z_u (z_u (z_u (z_u (z_u (z_u J 40 1 ((nu).toInt64)) 40 2 ((wo).toInt64)) 40 3 ((ag).toInt64)) 40 9 ((dy).toInt64)) 40 7 ((g).toInt64)) 40 8 ((tk).toInt64)) 40 6 ((acc (fC s g) n).toInt64)) 40 4 ((nI (popc h)).toInt64)) 40 5 ((bI S).toInt64) 40 j = gW s n nu wo ag h S g tk dy (j - 1) := by
  intro j h1 h9
  have : j = 1 ∨ j = 2 ∨ j = 3 ∨ j = 4 ∨ j = 5 ∨ j = 6 ∨ j = 7 ∨ j = 8 ∨ j = 9 := by omega
  rcases this with rfl | rfl | rfl | rfl | rfl | rfl | rfl | rfl | rfl <;> simp [z_u, gW]
theorem s_isGood {x : Nat × (Nat → Int32)} {d : Nat} {I : Nat → Nat → Int32} {J : Nat → Nat → Int64} {R : Nat → Nat → Option Nat} {G : zG} {pl q : Nat} {s : Nat → Int32} {sp th : Int32} (hR : Rs R) (hS : Sh G) (hst : StR I R G 17 pl s) (r3 : R 43 3 = some q) (hq : zo G q 1) (q2 : I q 2 = sp) : zRn x d 64 [.ref 43, .int (th)] (I, J, R, G) (some (.int (bI (th - sp ≤ s 7)))) (I, J, R, G) := by
  show zOk x d 64 0 [.ref 43, .int (th)] [] _ _
  refine k_iload f64_0 rfl ?_
  refine k_aload f64_1 rfl ?_
  refine k_getr (q := q) f64_2 hS.o43 rfl r3 ?_
  refine k_gI (w := sp) f64_5 hq rfl q2 ?_
  refine k_isub f64_8 ?_
  refine k_aload f64_9 rfl ?_
  refine k_getr (q := 17) f64_10 hS.o43 rfl hR.r43_1 ?_
  refine k_getr (q := pl) f64_13 hS.o17 rfl hst.2.1 ?_
  refine k_gI (w := s 7) f64_16 hst.2.2.1.2.1 rfl hst.2.2.2.1.2.1 ?_
  refine k_ic_gt f64_19 (fun g0 => ?_) (fun g0 => ?_)
  · refine k_iconst (v := 0) f64_26 rfl ?_
    exact k_iret f64_27 (by decide) ⟨bI_f (Int32.not_le.mpr g0), rfl⟩
  · refine k_iconst (v := 1) f64_22 rfl ?_
    refine k_goto f64_23 ?_
    exact k_iret f64_27 (by decide) ⟨bI_t (Int32.not_lt.mp g0), rfl⟩
theorem q_may {x : Nat × (Nat → Int32)} {d : Nat} {I : Nat → Nat → Int32} {J : Nat → Nat → Int64} {R : Nat → Nat → Option Nat} {G : zG} {pl q n h : Nat} {s : Nat → Int32} {bo : Option Nat} {f nu wo sp : Int32} (hR : Rs R) (hS : Sh G) (hst : StR I R G 17 pl s) (hn : s 1 = nI n) (hn8 : n ≤ 8) (hbr : BR I R G bo f) (r2 : R 43 2 = bo) (r3 : R 43 3 = some q) (hq : zo G q 1) (q0 : I q 0 = wo) (q2 : I q 2 = sp) (q3 : I q 3 = nI h) (hh : h < 1024) (w4 : I 43 4 = nu) {b k : Nat} {th : Int32} (hk : k < 1024) : zOk x (d + 3) 66 0 [.ref 43, .int (nI b), .int (nI k), .int (th)] [] (I, J, R, G) (fun v mm => v = some (.int (bI (¬ baB I f (gW s n nu wo (th - sp) k True (nI b) (nI b) th) = true))) ∧ ∃ J', mm = (I, J', R, G)) := by
  rcases hbr with ⟨rfl, rfl⟩ | ⟨t, r, ht6, rfl, rfl, hru⟩
  · refine k_aload f66_0 rfl ?_
    refine k_getn f66_1 hS.o43 rfl r2 ?_
    refine k_nonn f66_4 ?_
    refine k_iconst (v := 1) f66_7 rfl ?_
    exact k_iret f66_8 (by decide) ⟨bI_t (by simp [baB]), J, rfl⟩
  · have hz4 : zo G r 4 := by obtain ⟨_, _, _, _, _, h, _⟩ := hru; exact h.2.1
    have hso : soB I t (gW s n nu wo (th - sp) k True (nI b) (nI b) th) 1 = baB I (nI t) (gW s n nu wo (th - sp) k True (nI b) (nI b) th) := (baB_t I ht6 _).symm
    refine k_aload f66_0 rfl ?_
    refine k_getr (q := r) f66_1 hS.o43 rfl r2 ?_
    refine k_nonr f66_4 ?_
    refine k_aload f66_9 rfl ?_
    refine k_getr (q := 39) f66_10 hS.o43 rfl hR.r43_0 ?_
    refine k_aload f66_13 rfl ?_
    refine k_getr (q := q) f66_14 hS.o43 rfl r3 ?_
    refine k_aload f66_17 rfl ?_
    refine k_gI (w := nu) f66_18 hS.o43 rfl w4 ?_
    refine k_iload f66_21 rfl ?_
    refine e_v (as := [.int (th), .int (nu), .ref q]) (rest := []) f66_22 hS.o39 rfl rfl rfl (s_tellCoin hR hS hq q0 q2) ?_
    refine k_aload f66_25 rfl ?_
    refine k_getr (q := 39) f66_26 hS.o43 rfl hR.r43_0 ?_
    refine k_iload f66_29 rfl ?_
    refine k_iload f66_30 rfl ?_
    refine k_aload f66_31 rfl ?_
    refine k_getr (q := 17) f66_32 hS.o43 rfl hR.r43_1 ?_
    refine k_iload f66_35 rfl ?_
    refine e_v (as := [.int (nI b)]) (rest := [.int (nI b), .int (nI b), .ref 39]) f66_36 hS.o17 rfl rfl rfl (s_purse (st := 17) hst hn hn8) ?_
    refine e_v (as := [.int (acc (fC s (nI b)) n), .int (nI b), .int (nI b)]) (rest := []) f66_39 hS.o39 rfl rfl rfl (s_tellPeople hR hS) ?_
    refine k_aload f66_42 rfl ?_
    refine k_getr (q := 39) f66_43 hS.o43 rfl hR.r43_0 ?_
    refine k_iload f66_46 rfl ?_
    refine k_iconst (v := 1) f66_47 rfl ?_
    refine e_v (as := [.int (1), .int (nI k)]) (rest := []) f66_48 hS.o39 rfl rfl rfl (s_tellHands (h := k) (S := True) hR hS hk) ?_
    refine k_aload f66_51 rfl ?_
    refine k_getr (q := r) f66_52 hS.o43 rfl r2 ?_
    refine k_iconst (v := 2) f66_55 rfl ?_
    refine k_aload f66_56 rfl ?_
    refine k_getr (q := 39) f66_57 hS.o43 rfl hR.r43_0 ?_
    refine k_callv (as := [.ref 39, .int (2)]) (rest := []) f66_60 hz4 rfl rfl rfl rfl (q_some (kd := 1) (w := gW s n nu wo (th - sp) k True (nI b) (nI b) th) hR hS Kr.rfl hru (by decide) (told_w)) ?_
    rintro _ _ ⟨rfl, J1, rfl, _⟩
    rw [hso]
    refine k_bne f66_63 (fun g0 => ?_) (fun g0 => ?_)
    · refine k_iconst (v := 0) f66_70 rfl ?_
      exact k_iret f66_71 (by decide) ⟨bI_f (fun q => q g0), J1, rfl⟩
    · refine k_iconst (v := 1) f66_66 rfl ?_
      refine k_goto f66_67 ?_
      exact k_iret f66_71 (by decide) ⟨bI_t g0, J1, rfl⟩
theorem gW_S {s : Nat → Int32} {n h : Nat} {nu wo ag g tk dy : Int32} {S T : Prop} [Decidable S] [Decidable T] (e : S ↔ T) : gW s n nu wo ag h S g tk dy = gW s n nu wo ag h T g tk dy := by
  have : bI S = bI T := by
    unfold bI
    by_cases q : S
    · rw [if_pos q, if_pos (e.mp q)]
    · rw [if_neg q, if_neg fun k => q (e.mpr k)]
  funext j
  unfold gW
  rw [this]
theorem q_step {x : Nat × (Nat → Int32)} {d : Nat} {I : Nat → Nat → Int32} {J : Nat → Nat → Int64} {R : Nat → Nat → Option Nat} {G : zG} {pl q n h : Nat} {s : Nat → Int32} {bo : Option Nat} {f nu wo sp : Int32} (hR : Rs R) (hS : Sh G) (hst : StR I R G 17 pl s) (hn : s 1 = nI n) (hn8 : n ≤ 8) (hbr : BR I R G bo f) (r2 : R 43 2 = bo) (r3 : R 43 3 = some q) (hq : zo G q 1) (q0 : I q 0 = wo) (q2 : I q 2 = sp) (q3 : I q 3 = nI h) (hh : h < 1024) (w4 : I 43 4 = nu) {a b : Nat} {th : Int32} (ha : a < 10) (hb : b < 10) : zOk x (d + 4) 65 0 [.ref 43, .int (nI a), .int (nI b), .int (th), zU] [] (I, J, R, G) (fun v mm => v = some (.int (nI (stV (baB I f) s n nu wo sp h a b th))) ∧ ∃ J', mm = (I, J', R, G)) := by
  have hhb : h ||| 2 ^ b < 1024 := or_lt hh (Nat.lt_of_lt_of_le (Nat.pow_lt_pow_right (by omega) hb) (Nat.le_refl _))
  have ehb : (nI h) ||| ((1) <<< ((nI b) &&& 31)) = nI (h ||| 2 ^ b) := by rw [sh_1 b (by omega), nI_or]
  by_cases ta : h.testBit a = true
  · rcases hbr with ⟨rfl, rfl⟩ | ⟨t, r, ht6, rfl, rfl, hru⟩
    · have hbr : BR I R G none (-1) := Or.inl ⟨rfl, rfl⟩
      have n0 : ∀ w, ¬ baB I (-1) w = true := fun w => by simp [baB]
      by_cases tb : h.testBit b = true
      · refine k_aload f65_0 rfl ?_
        refine k_getr (q := q) f65_1 hS.o43 rfl r3 ?_
        refine k_gI (w := nI h) f65_4 hq rfl q3 ?_
        refine k_iload f65_7 rfl ?_
        refine e_s (as := [.int (nI a), .int (nI h)]) (rest := []) f65_8 rfl rfl rfl (s_has (b := h) (p := a) (by omega) (by omega)) ?_
        refine k_bne f65_11 (fun _ => ?_) (fun h_ => absurd (ta) h_)
        refine k_aload f65_16 rfl ?_
        refine k_getr (q := q) f65_17 hS.o43 rfl r3 ?_
        refine k_gI (w := nI h) f65_20 hq rfl q3 ?_
        refine k_iload f65_23 rfl ?_
        refine e_s (as := [.int (nI b), .int (nI h)]) (rest := []) f65_24 rfl rfl rfl (s_has (b := h) (p := b) (by omega) (by omega)) ?_
        refine k_bne f65_27 (fun _ => ?_) (fun h_ => absurd (tb) h_)
        refine k_iconst (v := 0) f65_34 rfl ?_
        refine k_istore (L' := [.ref 43, .int (nI a), .int (nI b), .int (th), .int (0)]) f65_35 rfl rfl ?_
        refine k_aload f65_37 rfl ?_
        refine k_getn f65_38 hS.o43 rfl r2 ?_
        refine k_nulln f65_41 ?_
        refine k_iload f65_110 rfl ?_
        refine k_if_ne f65_112 (fun h_ => absurd (by decide) h_) (fun _ => ?_)
        refine k_iconst (v := 1) f65_115 rfl ?_
        exact k_iret f65_116 rfl ⟨by rw [show stV (baB I (-1)) s n nu wo sp h a b th = 1 from by unfold stV sv; rw [if_pos ta, if_neg (n0 _), if_pos tb]]; rfl, J, rfl⟩
      · refine k_aload f65_0 rfl ?_
        refine k_getr (q := q) f65_1 hS.o43 rfl r3 ?_
        refine k_gI (w := nI h) f65_4 hq rfl q3 ?_
        refine k_iload f65_7 rfl ?_
        refine e_s (as := [.int (nI a), .int (nI h)]) (rest := []) f65_8 rfl rfl rfl (s_has (b := h) (p := a) (by omega) (by omega)) ?_
        refine k_bne f65_11 (fun _ => ?_) (fun h_ => absurd (ta) h_)
        refine k_aload f65_16 rfl ?_
        refine k_getr (q := q) f65_17 hS.o43 rfl r3 ?_
        refine k_gI (w := nI h) f65_20 hq rfl q3 ?_
        refine k_iload f65_23 rfl ?_
        refine e_s (as := [.int (nI b), .int (nI h)]) (rest := []) f65_24 rfl rfl rfl (s_has (b := h) (p := b) (by omega) (by omega)) ?_
        refine k_bne f65_27 (fun h_ => absurd h_ (tb)) (fun _ => ?_)
        refine k_iconst (v := 1) f65_30 rfl ?_
        refine k_goto f65_31 ?_
        refine k_istore (L' := [.ref 43, .int (nI a), .int (nI b), .int (th), .int (1)]) f65_35 rfl rfl ?_
        refine k_aload f65_37 rfl ?_
        refine k_getn f65_38 hS.o43 rfl r2 ?_
        refine k_nulln f65_41 ?_
        refine k_iload f65_110 rfl ?_
        refine k_if_ne f65_112 (fun _ => ?_) (fun h_ => absurd (by decide) h_)
        refine k_aload f65_117 rfl ?_
        refine k_iload f65_118 rfl ?_
        refine k_aload f65_119 rfl ?_
        refine k_getr (q := q) f65_120 hS.o43 rfl r3 ?_
        refine k_gI (w := nI h) f65_123 hq rfl q3 ?_
        refine k_iconst (v := 1) f65_126 rfl ?_
        refine k_iload f65_127 rfl ?_
        refine k_ishl f65_128 ?_
        refine k_ior f65_129 ?_
        rw [ehb]
        refine k_iload f65_130 rfl ?_
        refine k_callv (as := [.int (th), .int (nI (h ||| 2 ^ b)), .int (nI b)]) (rest := []) f65_131 hS.o43 rfl rfl rfl rfl (q_may (b := b) (k := h ||| 2 ^ b) (th := th) hR hS hst hn hn8 hbr r2 r3 hq q0 q2 q3 hh w4 hhb) ?_
        rintro _ _ ⟨rfl, J3, rfl⟩
        refine k_beq f65_134 (fun h_ => absurd ((n0 _)) h_) (fun _ => ?_)
        refine k_iconst (v := 2) f65_137 rfl ?_
        refine k_goto f65_138 ?_
        exact k_iret f65_142 rfl ⟨by rw [show stV (baB I (-1)) s n nu wo sp h a b th = 2 from by unfold stV sv; rw [if_pos ta, if_neg (n0 _), if_neg tb, if_neg (n0 _)]]; rfl, J3, rfl⟩
    · have hbr : BR I R G (some r) (nI t) := Or.inr ⟨t, r, ht6, rfl, rfl, hru⟩
      have hz4 : zo G r 4 := by obtain ⟨_, _, _, _, _, h, _⟩ := hru; exact h.2.1
      have hso : soB I t (gW s n nu wo (th - sp) h (¬ h.testBit b = true) (nI a) (nI b) th) 1 = baB I (nI t) (gW s n nu wo (th - sp) h (¬ h.testBit b = true) (nI a) (nI b) th) := (baB_t I ht6 _).symm
      by_cases b1 : baB I (nI t) (gW s n nu wo (th - sp) h (¬ h.testBit b = true) (nI a) (nI b) th) = true
      · by_cases tb : h.testBit b = true
        · refine k_aload f65_0 rfl ?_
          refine k_getr (q := q) f65_1 hS.o43 rfl r3 ?_
          refine k_gI (w := nI h) f65_4 hq rfl q3 ?_
          refine k_iload f65_7 rfl ?_
          refine e_s (as := [.int (nI a), .int (nI h)]) (rest := []) f65_8 rfl rfl rfl (s_has (b := h) (p := a) (by omega) (by omega)) ?_
          refine k_bne f65_11 (fun _ => ?_) (fun h_ => absurd (ta) h_)
          refine k_aload f65_16 rfl ?_
          refine k_getr (q := q) f65_17 hS.o43 rfl r3 ?_
          refine k_gI (w := nI h) f65_20 hq rfl q3 ?_
          refine k_iload f65_23 rfl ?_
          refine e_s (as := [.int (nI b), .int (nI h)]) (rest := []) f65_24 rfl rfl rfl (s_has (b := h) (p := b) (by omega) (by omega)) ?_
          refine k_bne f65_27 (fun _ => ?_) (fun h_ => absurd (tb) h_)
          refine k_iconst (v := 0) f65_34 rfl ?_
          refine k_istore (L' := [.ref 43, .int (nI a), .int (nI b), .int (th), .int (0)]) f65_35 rfl rfl ?_
          refine k_aload f65_37 rfl ?_
          refine k_getr (q := r) f65_38 hS.o43 rfl r2 ?_
          refine k_nullr f65_41 ?_
          refine k_aload f65_44 rfl ?_
          refine k_getr (q := 39) f65_45 hS.o43 rfl hR.r43_0 ?_
          refine k_aload f65_48 rfl ?_
          refine k_getr (q := q) f65_49 hS.o43 rfl r3 ?_
          refine k_aload f65_52 rfl ?_
          refine k_gI (w := nu) f65_53 hS.o43 rfl w4 ?_
          refine k_iload f65_56 rfl ?_
          refine e_v (as := [.int (th), .int (nu), .ref q]) (rest := []) f65_57 hS.o39 rfl rfl rfl (s_tellCoin hR hS hq q0 q2) ?_
          refine k_aload f65_60 rfl ?_
          refine k_getr (q := 39) f65_61 hS.o43 rfl hR.r43_0 ?_
          refine k_iload f65_64 rfl ?_
          refine k_iload f65_65 rfl ?_
          refine k_aload f65_66 rfl ?_
          refine k_getr (q := 17) f65_67 hS.o43 rfl hR.r43_1 ?_
          refine k_iload f65_70 rfl ?_
          refine e_v (as := [.int (nI a)]) (rest := [.int (nI b), .int (nI a), .ref 39]) f65_71 hS.o17 rfl rfl rfl (s_purse (st := 17) hst hn hn8) ?_
          refine e_v (as := [.int (acc (fC s (nI a)) n), .int (nI b), .int (nI a)]) (rest := []) f65_74 hS.o39 rfl rfl rfl (s_tellPeople hR hS) ?_
          refine k_aload f65_77 rfl ?_
          refine k_getr (q := 39) f65_78 hS.o43 rfl hR.r43_0 ?_
          refine k_aload f65_81 rfl ?_
          refine k_getr (q := q) f65_82 hS.o43 rfl r3 ?_
          refine k_gI (w := nI h) f65_85 hq rfl q3 ?_
          refine k_iload f65_88 rfl ?_
          refine e_v (as := [.int (0), .int (nI h)]) (rest := []) f65_90 hS.o39 rfl rfl rfl (s_tellHands (h := h) (S := False) hR hS hh) ?_
          refine k_aload f65_93 rfl ?_
          refine k_getr (q := r) f65_94 hS.o43 rfl r2 ?_
          refine k_iconst (v := 2) f65_97 rfl ?_
          refine k_aload f65_98 rfl ?_
          refine k_getr (q := 39) f65_99 hS.o43 rfl hR.r43_0 ?_
          refine k_callv (as := [.ref 39, .int (2)]) (rest := []) f65_102 hz4 rfl rfl rfl rfl (q_some (kd := 1) (w := gW s n nu wo (th - sp) h (¬ h.testBit b = true) (nI a) (nI b) th) hR hS Kr.rfl hru (by decide) (fun j h1 h9 => (told_w j h1 h9).trans (congrFun (gW_S ⟨fun k => k.elim, fun k => k tb⟩) _))) ?_
          rintro _ _ ⟨rfl, J1, rfl, _⟩
          rw [hso]
          refine k_beq f65_105 (fun h_ => absurd (b1) h_) (fun _ => ?_)
          refine k_iconst (v := 0) f65_108 rfl ?_
          exact k_iret f65_109 rfl ⟨by rw [show stV (baB I (nI t)) s n nu wo sp h a b th = 0 from by unfold stV sv; rw [if_pos ta, if_pos b1]]; rfl, J1, rfl⟩
        · refine k_aload f65_0 rfl ?_
          refine k_getr (q := q) f65_1 hS.o43 rfl r3 ?_
          refine k_gI (w := nI h) f65_4 hq rfl q3 ?_
          refine k_iload f65_7 rfl ?_
          refine e_s (as := [.int (nI a), .int (nI h)]) (rest := []) f65_8 rfl rfl rfl (s_has (b := h) (p := a) (by omega) (by omega)) ?_
          refine k_bne f65_11 (fun _ => ?_) (fun h_ => absurd (ta) h_)
          refine k_aload f65_16 rfl ?_
          refine k_getr (q := q) f65_17 hS.o43 rfl r3 ?_
          refine k_gI (w := nI h) f65_20 hq rfl q3 ?_
          refine k_iload f65_23 rfl ?_
          refine e_s (as := [.int (nI b), .int (nI h)]) (rest := []) f65_24 rfl rfl rfl (s_has (b := h) (p := b) (by omega) (by omega)) ?_
          refine k_bne f65_27 (fun h_ => absurd h_ (tb)) (fun _ => ?_)
          refine k_iconst (v := 1) f65_30 rfl ?_
          refine k_goto f65_31 ?_
          refine k_istore (L' := [.ref 43, .int (nI a), .int (nI b), .int (th), .int (1)]) f65_35 rfl rfl ?_
          refine k_aload f65_37 rfl ?_
          refine k_getr (q := r) f65_38 hS.o43 rfl r2 ?_
          refine k_nullr f65_41 ?_
          refine k_aload f65_44 rfl ?_
          refine k_getr (q := 39) f65_45 hS.o43 rfl hR.r43_0 ?_
          refine k_aload f65_48 rfl ?_
          refine k_getr (q := q) f65_49 hS.o43 rfl r3 ?_
          refine k_aload f65_52 rfl ?_
          refine k_gI (w := nu) f65_53 hS.o43 rfl w4 ?_
          refine k_iload f65_56 rfl ?_
          refine e_v (as := [.int (th), .int (nu), .ref q]) (rest := []) f65_57 hS.o39 rfl rfl rfl (s_tellCoin hR hS hq q0 q2) ?_
          refine k_aload f65_60 rfl ?_
          refine k_getr (q := 39) f65_61 hS.o43 rfl hR.r43_0 ?_
          refine k_iload f65_64 rfl ?_
          refine k_iload f65_65 rfl ?_
          refine k_aload f65_66 rfl ?_
          refine k_getr (q := 17) f65_67 hS.o43 rfl hR.r43_1 ?_
          refine k_iload f65_70 rfl ?_
          refine e_v (as := [.int (nI a)]) (rest := [.int (nI b), .int (nI a), .ref 39]) f65_71 hS.o17 rfl rfl rfl (s_purse (st := 17) hst hn hn8) ?_
          refine e_v (as := [.int (acc (fC s (nI a)) n), .int (nI b), .int (nI a)]) (rest := []) f65_74 hS.o39 rfl rfl rfl (s_tellPeople hR hS) ?_
          refine k_aload f65_77 rfl ?_
          refine k_getr (q := 39) f65_78 hS.o43 rfl hR.r43_0 ?_
          refine k_aload f65_81 rfl ?_
          refine k_getr (q := q) f65_82 hS.o43 rfl r3 ?_
          refine k_gI (w := nI h) f65_85 hq rfl q3 ?_
          refine k_iload f65_88 rfl ?_
          refine e_v (as := [.int (1), .int (nI h)]) (rest := []) f65_90 hS.o39 rfl rfl rfl (s_tellHands (h := h) (S := True) hR hS hh) ?_
          refine k_aload f65_93 rfl ?_
          refine k_getr (q := r) f65_94 hS.o43 rfl r2 ?_
          refine k_iconst (v := 2) f65_97 rfl ?_
          refine k_aload f65_98 rfl ?_
          refine k_getr (q := 39) f65_99 hS.o43 rfl hR.r43_0 ?_
          refine k_callv (as := [.ref 39, .int (2)]) (rest := []) f65_102 hz4 rfl rfl rfl rfl (q_some (kd := 1) (w := gW s n nu wo (th - sp) h (¬ h.testBit b = true) (nI a) (nI b) th) hR hS Kr.rfl hru (by decide) (fun j h1 h9 => (told_w j h1 h9).trans (congrFun (gW_S ⟨fun _ => tb, fun _ => trivial⟩) _))) ?_
          rintro _ _ ⟨rfl, J1, rfl, _⟩
          rw [hso]
          refine k_beq f65_105 (fun h_ => absurd (b1) h_) (fun _ => ?_)
          refine k_iconst (v := 0) f65_108 rfl ?_
          exact k_iret f65_109 rfl ⟨by rw [show stV (baB I (nI t)) s n nu wo sp h a b th = 0 from by unfold stV sv; rw [if_pos ta, if_pos b1]]; rfl, J1, rfl⟩
      · by_cases tb : h.testBit b = true
        · refine k_aload f65_0 rfl ?_
          refine k_getr (q := q) f65_1 hS.o43 rfl r3 ?_
          refine k_gI (w := nI h) f65_4 hq rfl q3 ?_
          refine k_iload f65_7 rfl ?_
          refine e_s (as := [.int (nI a), .int (nI h)]) (rest := []) f65_8 rfl rfl rfl (s_has (b := h) (p := a) (by omega) (by omega)) ?_
          refine k_bne f65_11 (fun _ => ?_) (fun h_ => absurd (ta) h_)
          refine k_aload f65_16 rfl ?_
          refine k_getr (q := q) f65_17 hS.o43 rfl r3 ?_
          refine k_gI (w := nI h) f65_20 hq rfl q3 ?_
          refine k_iload f65_23 rfl ?_
          refine e_s (as := [.int (nI b), .int (nI h)]) (rest := []) f65_24 rfl rfl rfl (s_has (b := h) (p := b) (by omega) (by omega)) ?_
          refine k_bne f65_27 (fun _ => ?_) (fun h_ => absurd (tb) h_)
          refine k_iconst (v := 0) f65_34 rfl ?_
          refine k_istore (L' := [.ref 43, .int (nI a), .int (nI b), .int (th), .int (0)]) f65_35 rfl rfl ?_
          refine k_aload f65_37 rfl ?_
          refine k_getr (q := r) f65_38 hS.o43 rfl r2 ?_
          refine k_nullr f65_41 ?_
          refine k_aload f65_44 rfl ?_
          refine k_getr (q := 39) f65_45 hS.o43 rfl hR.r43_0 ?_
          refine k_aload f65_48 rfl ?_
          refine k_getr (q := q) f65_49 hS.o43 rfl r3 ?_
          refine k_aload f65_52 rfl ?_
          refine k_gI (w := nu) f65_53 hS.o43 rfl w4 ?_
          refine k_iload f65_56 rfl ?_
          refine e_v (as := [.int (th), .int (nu), .ref q]) (rest := []) f65_57 hS.o39 rfl rfl rfl (s_tellCoin hR hS hq q0 q2) ?_
          refine k_aload f65_60 rfl ?_
          refine k_getr (q := 39) f65_61 hS.o43 rfl hR.r43_0 ?_
          refine k_iload f65_64 rfl ?_
          refine k_iload f65_65 rfl ?_
          refine k_aload f65_66 rfl ?_
          refine k_getr (q := 17) f65_67 hS.o43 rfl hR.r43_1 ?_
          refine k_iload f65_70 rfl ?_
          refine e_v (as := [.int (nI a)]) (rest := [.int (nI b), .int (nI a), .ref 39]) f65_71 hS.o17 rfl rfl rfl (s_purse (st := 17) hst hn hn8) ?_
          refine e_v (as := [.int (acc (fC s (nI a)) n), .int (nI b), .int (nI a)]) (rest := []) f65_74 hS.o39 rfl rfl rfl (s_tellPeople hR hS) ?_
          refine k_aload f65_77 rfl ?_
          refine k_getr (q := 39) f65_78 hS.o43 rfl hR.r43_0 ?_
          refine k_aload f65_81 rfl ?_
          refine k_getr (q := q) f65_82 hS.o43 rfl r3 ?_
          refine k_gI (w := nI h) f65_85 hq rfl q3 ?_
          refine k_iload f65_88 rfl ?_
          refine e_v (as := [.int (0), .int (nI h)]) (rest := []) f65_90 hS.o39 rfl rfl rfl (s_tellHands (h := h) (S := False) hR hS hh) ?_
          refine k_aload f65_93 rfl ?_
          refine k_getr (q := r) f65_94 hS.o43 rfl r2 ?_
          refine k_iconst (v := 2) f65_97 rfl ?_
          refine k_aload f65_98 rfl ?_
          refine k_getr (q := 39) f65_99 hS.o43 rfl hR.r43_0 ?_
          refine k_callv (as := [.ref 39, .int (2)]) (rest := []) f65_102 hz4 rfl rfl rfl rfl (q_some (kd := 1) (w := gW s n nu wo (th - sp) h (¬ h.testBit b = true) (nI a) (nI b) th) hR hS Kr.rfl hru (by decide) (fun j h1 h9 => (told_w j h1 h9).trans (congrFun (gW_S ⟨fun k => k.elim, fun k => k tb⟩) _))) ?_
          rintro _ _ ⟨rfl, J1, rfl, _⟩
          rw [hso]
          refine k_beq f65_105 (fun _ => ?_) (fun h_ => (absurd h_ (b1)))
          refine k_iload f65_110 rfl ?_
          refine k_if_ne f65_112 (fun h_ => absurd (by decide) h_) (fun _ => ?_)
          refine k_iconst (v := 1) f65_115 rfl ?_
          exact k_iret f65_116 rfl ⟨by rw [show stV (baB I (nI t)) s n nu wo sp h a b th = 1 from by unfold stV sv; rw [if_pos ta, if_neg b1, if_pos tb]]; rfl, J1, rfl⟩
        · by_cases b2 : baB I (nI t) (gW s n nu wo (th - sp) (h ||| 2 ^ b) True (nI b) (nI b) th) = true
          · refine k_aload f65_0 rfl ?_
            refine k_getr (q := q) f65_1 hS.o43 rfl r3 ?_
            refine k_gI (w := nI h) f65_4 hq rfl q3 ?_
            refine k_iload f65_7 rfl ?_
            refine e_s (as := [.int (nI a), .int (nI h)]) (rest := []) f65_8 rfl rfl rfl (s_has (b := h) (p := a) (by omega) (by omega)) ?_
            refine k_bne f65_11 (fun _ => ?_) (fun h_ => absurd (ta) h_)
            refine k_aload f65_16 rfl ?_
            refine k_getr (q := q) f65_17 hS.o43 rfl r3 ?_
            refine k_gI (w := nI h) f65_20 hq rfl q3 ?_
            refine k_iload f65_23 rfl ?_
            refine e_s (as := [.int (nI b), .int (nI h)]) (rest := []) f65_24 rfl rfl rfl (s_has (b := h) (p := b) (by omega) (by omega)) ?_
            refine k_bne f65_27 (fun h_ => absurd h_ (tb)) (fun _ => ?_)
            refine k_iconst (v := 1) f65_30 rfl ?_
            refine k_goto f65_31 ?_
            refine k_istore (L' := [.ref 43, .int (nI a), .int (nI b), .int (th), .int (1)]) f65_35 rfl rfl ?_
            refine k_aload f65_37 rfl ?_
            refine k_getr (q := r) f65_38 hS.o43 rfl r2 ?_
            refine k_nullr f65_41 ?_
            refine k_aload f65_44 rfl ?_
            refine k_getr (q := 39) f65_45 hS.o43 rfl hR.r43_0 ?_
            refine k_aload f65_48 rfl ?_
            refine k_getr (q := q) f65_49 hS.o43 rfl r3 ?_
            refine k_aload f65_52 rfl ?_
            refine k_gI (w := nu) f65_53 hS.o43 rfl w4 ?_
            refine k_iload f65_56 rfl ?_
            refine e_v (as := [.int (th), .int (nu), .ref q]) (rest := []) f65_57 hS.o39 rfl rfl rfl (s_tellCoin hR hS hq q0 q2) ?_
            refine k_aload f65_60 rfl ?_
            refine k_getr (q := 39) f65_61 hS.o43 rfl hR.r43_0 ?_
            refine k_iload f65_64 rfl ?_
            refine k_iload f65_65 rfl ?_
            refine k_aload f65_66 rfl ?_
            refine k_getr (q := 17) f65_67 hS.o43 rfl hR.r43_1 ?_
            refine k_iload f65_70 rfl ?_
            refine e_v (as := [.int (nI a)]) (rest := [.int (nI b), .int (nI a), .ref 39]) f65_71 hS.o17 rfl rfl rfl (s_purse (st := 17) hst hn hn8) ?_
            refine e_v (as := [.int (acc (fC s (nI a)) n), .int (nI b), .int (nI a)]) (rest := []) f65_74 hS.o39 rfl rfl rfl (s_tellPeople hR hS) ?_
            refine k_aload f65_77 rfl ?_
            refine k_getr (q := 39) f65_78 hS.o43 rfl hR.r43_0 ?_
            refine k_aload f65_81 rfl ?_
            refine k_getr (q := q) f65_82 hS.o43 rfl r3 ?_
            refine k_gI (w := nI h) f65_85 hq rfl q3 ?_
            refine k_iload f65_88 rfl ?_
            refine e_v (as := [.int (1), .int (nI h)]) (rest := []) f65_90 hS.o39 rfl rfl rfl (s_tellHands (h := h) (S := True) hR hS hh) ?_
            refine k_aload f65_93 rfl ?_
            refine k_getr (q := r) f65_94 hS.o43 rfl r2 ?_
            refine k_iconst (v := 2) f65_97 rfl ?_
            refine k_aload f65_98 rfl ?_
            refine k_getr (q := 39) f65_99 hS.o43 rfl hR.r43_0 ?_
            refine k_callv (as := [.ref 39, .int (2)]) (rest := []) f65_102 hz4 rfl rfl rfl rfl (q_some (kd := 1) (w := gW s n nu wo (th - sp) h (¬ h.testBit b = true) (nI a) (nI b) th) hR hS Kr.rfl hru (by decide) (fun j h1 h9 => (told_w j h1 h9).trans (congrFun (gW_S ⟨fun _ => tb, fun _ => trivial⟩) _))) ?_
            rintro _ _ ⟨rfl, J1, rfl, _⟩
            rw [hso]
            refine k_beq f65_105 (fun _ => ?_) (fun h_ => (absurd h_ (b1)))
            refine k_iload f65_110 rfl ?_
            refine k_if_ne f65_112 (fun _ => ?_) (fun h_ => absurd (by decide) h_)
            refine k_aload f65_117 rfl ?_
            refine k_iload f65_118 rfl ?_
            refine k_aload f65_119 rfl ?_
            refine k_getr (q := q) f65_120 hS.o43 rfl r3 ?_
            refine k_gI (w := nI h) f65_123 hq rfl q3 ?_
            refine k_iconst (v := 1) f65_126 rfl ?_
            refine k_iload f65_127 rfl ?_
            refine k_ishl f65_128 ?_
            refine k_ior f65_129 ?_
            rw [ehb]
            refine k_iload f65_130 rfl ?_
            refine k_callv (as := [.int (th), .int (nI (h ||| 2 ^ b)), .int (nI b)]) (rest := []) f65_131 hS.o43 rfl rfl rfl rfl (q_may (b := b) (k := h ||| 2 ^ b) (th := th) hR hS hst hn hn8 hbr r2 r3 hq q0 q2 q3 hh w4 hhb) ?_
            rintro _ _ ⟨rfl, J3, rfl⟩
            refine k_beq f65_134 (fun _ => ?_) (fun h_ => (absurd h_ ((fun k => k b2))))
            refine k_iconst (v := 0) f65_141 rfl ?_
            exact k_iret f65_142 rfl ⟨by rw [show stV (baB I (nI t)) s n nu wo sp h a b th = 0 from by unfold stV sv; rw [if_pos ta, if_neg b1, if_neg tb, if_pos b2]]; rfl, J3, rfl⟩
          · refine k_aload f65_0 rfl ?_
            refine k_getr (q := q) f65_1 hS.o43 rfl r3 ?_
            refine k_gI (w := nI h) f65_4 hq rfl q3 ?_
            refine k_iload f65_7 rfl ?_
            refine e_s (as := [.int (nI a), .int (nI h)]) (rest := []) f65_8 rfl rfl rfl (s_has (b := h) (p := a) (by omega) (by omega)) ?_
            refine k_bne f65_11 (fun _ => ?_) (fun h_ => absurd (ta) h_)
            refine k_aload f65_16 rfl ?_
            refine k_getr (q := q) f65_17 hS.o43 rfl r3 ?_
            refine k_gI (w := nI h) f65_20 hq rfl q3 ?_
            refine k_iload f65_23 rfl ?_
            refine e_s (as := [.int (nI b), .int (nI h)]) (rest := []) f65_24 rfl rfl rfl (s_has (b := h) (p := b) (by omega) (by omega)) ?_
            refine k_bne f65_27 (fun h_ => absurd h_ (tb)) (fun _ => ?_)
            refine k_iconst (v := 1) f65_30 rfl ?_
            refine k_goto f65_31 ?_
            refine k_istore (L' := [.ref 43, .int (nI a), .int (nI b), .int (th), .int (1)]) f65_35 rfl rfl ?_
            refine k_aload f65_37 rfl ?_
            refine k_getr (q := r) f65_38 hS.o43 rfl r2 ?_
            refine k_nullr f65_41 ?_
            refine k_aload f65_44 rfl ?_
            refine k_getr (q := 39) f65_45 hS.o43 rfl hR.r43_0 ?_
            refine k_aload f65_48 rfl ?_
            refine k_getr (q := q) f65_49 hS.o43 rfl r3 ?_
            refine k_aload f65_52 rfl ?_
            refine k_gI (w := nu) f65_53 hS.o43 rfl w4 ?_
            refine k_iload f65_56 rfl ?_
            refine e_v (as := [.int (th), .int (nu), .ref q]) (rest := []) f65_57 hS.o39 rfl rfl rfl (s_tellCoin hR hS hq q0 q2) ?_
            refine k_aload f65_60 rfl ?_
            refine k_getr (q := 39) f65_61 hS.o43 rfl hR.r43_0 ?_
            refine k_iload f65_64 rfl ?_
            refine k_iload f65_65 rfl ?_
            refine k_aload f65_66 rfl ?_
            refine k_getr (q := 17) f65_67 hS.o43 rfl hR.r43_1 ?_
            refine k_iload f65_70 rfl ?_
            refine e_v (as := [.int (nI a)]) (rest := [.int (nI b), .int (nI a), .ref 39]) f65_71 hS.o17 rfl rfl rfl (s_purse (st := 17) hst hn hn8) ?_
            refine e_v (as := [.int (acc (fC s (nI a)) n), .int (nI b), .int (nI a)]) (rest := []) f65_74 hS.o39 rfl rfl rfl (s_tellPeople hR hS) ?_
            refine k_aload f65_77 rfl ?_
            refine k_getr (q := 39) f65_78 hS.o43 rfl hR.r43_0 ?_
            refine k_aload f65_81 rfl ?_
            refine k_getr (q := q) f65_82 hS.o43 rfl r3 ?_
            refine k_gI (w := nI h) f65_85 hq rfl q3 ?_
            refine k_iload f65_88 rfl ?_
            refine e_v (as := [.int (1), .int (nI h)]) (rest := []) f65_90 hS.o39 rfl rfl rfl (s_tellHands (h := h) (S := True) hR hS hh) ?_
            refine k_aload f65_93 rfl ?_
            refine k_getr (q := r) f65_94 hS.o43 rfl r2 ?_
            refine k_iconst (v := 2) f65_97 rfl ?_
            refine k_aload f65_98 rfl ?_
            refine k_getr (q := 39) f65_99 hS.o43 rfl hR.r43_0 ?_
            refine k_callv (as := [.ref 39, .int (2)]) (rest := []) f65_102 hz4 rfl rfl rfl rfl (q_some (kd := 1) (w := gW s n nu wo (th - sp) h (¬ h.testBit b = true) (nI a) (nI b) th) hR hS Kr.rfl hru (by decide) (fun j h1 h9 => (told_w j h1 h9).trans (congrFun (gW_S ⟨fun _ => tb, fun _ => trivial⟩) _))) ?_
            rintro _ _ ⟨rfl, J1, rfl, _⟩
            rw [hso]
            refine k_beq f65_105 (fun _ => ?_) (fun h_ => (absurd h_ (b1)))
            refine k_iload f65_110 rfl ?_
            refine k_if_ne f65_112 (fun _ => ?_) (fun h_ => absurd (by decide) h_)
            refine k_aload f65_117 rfl ?_
            refine k_iload f65_118 rfl ?_
            refine k_aload f65_119 rfl ?_
            refine k_getr (q := q) f65_120 hS.o43 rfl r3 ?_
            refine k_gI (w := nI h) f65_123 hq rfl q3 ?_
            refine k_iconst (v := 1) f65_126 rfl ?_
            refine k_iload f65_127 rfl ?_
            refine k_ishl f65_128 ?_
            refine k_ior f65_129 ?_
            rw [ehb]
            refine k_iload f65_130 rfl ?_
            refine k_callv (as := [.int (th), .int (nI (h ||| 2 ^ b)), .int (nI b)]) (rest := []) f65_131 hS.o43 rfl rfl rfl rfl (q_may (b := b) (k := h ||| 2 ^ b) (th := th) hR hS hst hn hn8 hbr r2 r3 hq q0 q2 q3 hh w4 hhb) ?_
            rintro _ _ ⟨rfl, J3, rfl⟩
            refine k_beq f65_134 (fun h_ => absurd (b2) h_) (fun _ => ?_)
            refine k_iconst (v := 2) f65_137 rfl ?_
            refine k_goto f65_138 ?_
            exact k_iret f65_142 rfl ⟨by rw [show stV (baB I (nI t)) s n nu wo sp h a b th = 2 from by unfold stV sv; rw [if_pos ta, if_neg b1, if_neg tb, if_neg b2]]; rfl, J3, rfl⟩
  · refine k_aload f65_0 rfl ?_
    refine k_getr (q := q) f65_1 hS.o43 rfl r3 ?_
    refine k_gI (w := nI h) f65_4 hq rfl q3 ?_
    refine k_iload f65_7 rfl ?_
    refine e_s (as := [.int (nI a), .int (nI h)]) (rest := []) f65_8 rfl rfl rfl (s_has (b := h) (p := a) (by omega) (by omega)) ?_
    refine k_bne f65_11 (fun h_ => absurd h_ (ta)) (fun _ => ?_)
    refine k_iconst (v := 0) f65_14 rfl ?_
    exact k_iret f65_15 rfl ⟨by rw [show stV (baB I f) s n nu wo sp h a b th = 0 from by unfold stV sv; rw [if_neg ta]]; rfl, J, rfl⟩
