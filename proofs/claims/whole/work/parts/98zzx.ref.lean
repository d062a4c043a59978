/-! THE REFERENCE'S TAPE. -/
def sb (v : Nat) : Int32 := (nI v).toInt8.toInt32
theorem sb_all : ∀ v, v < 256 → (sb v = 32 ↔ v = 32) ∧ (¬ sb v < 97 ∧ ¬ 122 < sb v ↔ 97 ≤ v ∧ v ≤ 122) ∧ (¬ sb v < 48 ∧ ¬ 57 < sb v ↔ 48 ≤ v ∧ v ≤ 57) ∧ sb v &&& 255 = nI v ∧ (v < 128 → sb v = nI v) ∧ (sb v = 61 ↔ v = 61) ∧ (sb v = 42 ↔ v = 42) ∧ (sb v = 43 ↔ v = 43) := by decide +kernel
def LX (I I' : Nat → Nat → Int32) : Prop := ∀ a c, ¬ (a = 51 ∧ 13 ≤ c ∧ c ≤ 15) → I' a c = I a c
theorem LX.rfl {I : Nat → Nat → Int32} : LX I I := fun _ _ _ => Eq.refl _
theorem LX.trans {I I1 I2 : Nat → Nat → Int32} (h1 : LX I I1) (h2 : LX I1 I2) : LX I I2 := fun p k h => (h2 p k h).trans (h1 p k h)
theorem LX.put {I I' : Nat → Nat → Int32} {c : Nat} {v : Int32} (h : LX I I') (hc : 13 ≤ c ∧ c ≤ 15) : LX I (z_u I' 51 c v) := fun p k g => (z_u_no _ _ (by omega)).trans (h p k g)
theorem LX.tp {I I' : Nat → Nat → Int32} {b : Nat → Nat} {n : Nat} (h : LX I I') (t : TP I b n) : TP I' b n := t.keep (fun k => h 10 k (by omega)) (fun k => h 52 k (by omega))
def RX (I : Nat → Nat → Int32) (n p : Nat) : Prop := I 51 13 = nI p ∧ p ≤ n ∧ I 51 14 = 0 ∧ I 51 1 = nI n
def seV (b : Nat → Nat) (n q : Nat) : Int32 := if q < n then nI (b q) else -1
theorem se_eq {b : Nat → Nat} {n q c : Nat} (hb : b q < 256) (hc : c < 256) : seV b n q = nI c ↔ q < n ∧ b q = c := by
  unfold seV
  by_cases h : q < n
  · rw [if_pos h, nI_eq (by omega) (by omega)]
    exact ⟨fun z => ⟨h, z⟩, fun z => z.2⟩
  · rw [if_neg h]
    refine ⟨fun z => ?_, fun z => absurd z.1 h⟩
    have : nI 0 ≤ nI c := nI_le (by omega) (by omega)
    rw [← z] at this
    exact absurd this (by decide)
theorem s_fails {x : Nat × (Nat → Int32)} {d : Nat} {I : Nat → Nat → Int32} {J : Nat → Nat → Int64} {R : Nat → Nat → Option Nat} {G : zG} {w a : Nat} (hS : Sh G) (h0 : I 51 14 = 0) : zRn x d 116 [.ref 51, .int (nI w), .int (nI a)] (I, J, R, G) (some (.int (0))) (z_u I 51 14 (nI (1 + 8 * a + w)), J, R, G) := by
  show zOk x d 116 0 [.ref 51, .int (nI w), .int (nI a)] [] _ _
  refine k_aload f116_0 rfl ?_
  refine k_gI (w := 0) f116_1 hS.o51 rfl h0 ?_
  refine k_if_ne f116_4 (fun h_ => absurd (by decide) h_) (fun _ => ?_)
  refine k_aload f116_7 rfl ?_
  refine k_iconst (v := 1) f116_8 rfl ?_
  refine k_iconst (v := 8) f116_9 rfl ?_
  refine k_iload f116_11 rfl ?_
  refine k_imul f116_12 ?_
  refine k_iadd f116_13 ?_
  refine k_iload f116_14 rfl ?_
  refine k_iadd f116_15 ?_
  rw [show (1 : Int32) + 8 * nI a + nI w = nI (1 + 8 * a + w) from by rw [← nI_add, ← nI_add, ← pk_mul]; rfl]
  refine k_putI f116_16 hS.o51 rfl ?_
  refine k_iconst (v := 0) f116_19 rfl ?_
  exact k_iret f116_20 (by decide) ⟨rfl, rfl⟩
theorem lp_see {x : Nat × (Nat → Int32)} {d : Nat} {J : Nat → Nat → Int64} {R : Nat → Nat → Option Nat} {G : zG} {I0 : Nat → Nat → Int32} {b : Nat → Nat} {n : Nat} (hR : Rs R) (hS : Sh G) (hT0 : TP I0 b n) : ∀ (f p : Nat) (I : Nat → Nat → Int32), p + f = n → RX I n p → LX I0 I → zOk x d 117 0 [.ref 51] [] (I, J, R, G) (fun v m => v = some (.int (seV b n (bk b n p))) ∧ ∃ I', m = (I', J, R, G) ∧ RX I' n (bk b n p) ∧ LX I0 I') := by
  have h400 := hT0.1
  intro f
  induction f with
  | zero =>
    intro p I hp hx hl
    have hp : p = n := by omega
    subst hp
    rw [show bk b p p = p from rE_n fun h => absurd (isB_lt h) (Nat.lt_irrefl _)]
    refine k_aload f117_0 rfl ?_
    refine k_gI (w := nI p) f117_1 hS.o51 rfl hx.1 ?_
    refine k_aload f117_4 rfl ?_
    refine k_gI (w := nI p) f117_5 hS.o51 rfl hx.2.2.2 ?_
    refine k_ic_ge f117_8 (fun _ => ?_) (fun h_ => absurd (Int32.le_refl _) h_)
    refine k_aload f117_38 rfl ?_
    refine k_gI (w := nI p) f117_39 hS.o51 rfl hx.1 ?_
    refine k_aload f117_42 rfl ?_
    refine k_gI (w := nI p) f117_43 hS.o51 rfl hx.2.2.2 ?_
    refine k_ic_ge f117_46 (fun _ => ?_) (fun h_ => absurd (Int32.le_refl _) h_)
    refine k_iconst (v := (-1)) f117_65 rfl ?_
    exact k_iret f117_66 rfl ⟨by unfold seV; rw [if_neg (Nat.lt_irrefl _)], I, rfl, hx, hl⟩
  | succ f ih =>
    intro p I hp hx hl
    have b8 := (hT0.2 p (by omega)).1
    have hT := hl.tp hT0
    by_cases h : b p = 32
    · rw [show bk b n p = bk b n (p + 1) from rE_y (fun _ => isB_lt) (decide_eq_true ⟨by omega, h⟩)]
      refine k_aload f117_0 rfl ?_
      refine k_gI (w := nI p) f117_1 hS.o51 rfl hx.1 ?_
      refine k_aload f117_4 rfl ?_
      refine k_gI (w := nI n) f117_5 hS.o51 rfl hx.2.2.2 ?_
      refine k_ic_ge f117_8 (fun h_ => absurd h_ (nI_ge (by omega) (by omega))) (fun _ => ?_)
      refine k_aload f117_11 rfl ?_
      refine k_getr (q := 52) f117_12 hS.o51 rfl hR.r51_0 ?_
      refine k_aload f117_15 rfl ?_
      refine k_gI (w := nI p) f117_16 hS.o51 rfl hx.1 ?_
      refine k_ba (k := p) (w := sb (b p)) f117_19 hS.a52 rfl (by omega) (by decide) (hT.2 p (by omega)).2.2 ?_
      refine k_iconst (v := 32) f117_20 rfl ?_
      refine k_ic_ne f117_22 (fun h_ => absurd ((sb_all _ b8).1.mpr h) h_) (fun _ => ?_)
      refine k_aload f117_25 rfl ?_
      refine k_dup f117_26 ?_
      refine k_gI (w := nI p) f117_27 hS.o51 rfl hx.1 ?_
      refine k_iconst (v := 1) f117_30 rfl ?_
      refine k_iadd f117_31 ?_
      rw [nI_1 p]
      refine k_putI f117_32 hS.o51 rfl ?_
      refine k_goto f117_35 ?_
      exact ih (p + 1) _ (by omega) ⟨z_u_same _ _ _ _, by omega, (z_u_k _ _ _ (by decide)).trans hx.2.2.1, (z_u_k _ _ _ (by decide)).trans hx.2.2.2⟩ (hl.put (by omega))
    · rw [show bk b n p = p from rE_n fun q => h (of_decide_eq_true q).2]
      refine k_aload f117_0 rfl ?_
      refine k_gI (w := nI p) f117_1 hS.o51 rfl hx.1 ?_
      refine k_aload f117_4 rfl ?_
      refine k_gI (w := nI n) f117_5 hS.o51 rfl hx.2.2.2 ?_
      refine k_ic_ge f117_8 (fun h_ => absurd h_ (nI_ge (by omega) (by omega))) (fun _ => ?_)
      refine k_aload f117_11 rfl ?_
      refine k_getr (q := 52) f117_12 hS.o51 rfl hR.r51_0 ?_
      refine k_aload f117_15 rfl ?_
      refine k_gI (w := nI p) f117_16 hS.o51 rfl hx.1 ?_
      refine k_ba (k := p) (w := sb (b p)) f117_19 hS.a52 rfl (by omega) (by decide) (hT.2 p (by omega)).2.2 ?_
      refine k_iconst (v := 32) f117_20 rfl ?_
      refine k_ic_ne f117_22 (fun _ => ?_) (fun h_ => absurd ((fun z => h ((sb_all _ b8).1.mp z))) h_)
      refine k_aload f117_38 rfl ?_
      refine k_gI (w := nI p) f117_39 hS.o51 rfl hx.1 ?_
      refine k_aload f117_42 rfl ?_
      refine k_gI (w := nI n) f117_43 hS.o51 rfl hx.2.2.2 ?_
      refine k_ic_ge f117_46 (fun h_ => absurd h_ (nI_ge (by omega) (by omega))) (fun _ => ?_)
      refine k_aload f117_49 rfl ?_
      refine k_getr (q := 52) f117_50 hS.o51 rfl hR.r51_0 ?_
      refine k_aload f117_53 rfl ?_
      refine k_gI (w := nI p) f117_54 hS.o51 rfl hx.1 ?_
      refine k_ba (k := p) (w := sb (b p)) f117_57 hS.a52 rfl (by omega) (by decide) (hT.2 p (by omega)).2.2 ?_
      refine k_iconst (v := 255) f117_58 rfl ?_
      refine k_iand f117_61 ?_
      rw [(sb_all _ b8).2.2.2.1]
      refine k_goto f117_62 ?_
      exact k_iret f117_66 rfl ⟨by unfold seV; rw [if_pos (show p < n by omega)], I, rfl, hx, hl⟩
theorem q_see {x : Nat × (Nat → Int32)} {d : Nat} {I : Nat → Nat → Int32} {J : Nat → Nat → Int64} {R : Nat → Nat → Option Nat} {G : zG} {b : Nat → Nat} {n p : Nat} (hR : Rs R) (hS : Sh G) (hT : TP I b n) (hx : RX I n p) : zOk x d 117 0 [.ref 51] [] (I, J, R, G) (fun v m => v = some (.int (seV b n (bk b n p))) ∧ ∃ I', m = (I', J, R, G) ∧ RX I' n (bk b n p) ∧ LX I I') := lp_see hR hS hT (n - p) p I (by have := hx.2.1; omega) hx LX.rfl
theorem s_isDigit {x : Nat × (Nat → Int32)} {d : Nat} {I : Nat → Nat → Int32} {J : Nat → Nat → Int64} {R : Nat → Nat → Option Nat} {G : zG} {b : Nat → Nat} {n k : Nat} (hR : Rs R) (hS : Sh G) (hT : TP I b n) (h1 : I 51 1 = nI n) (hk : k ≤ 400) : zRn x d 118 [.ref 51, .int (nI k)] (I, J, R, G) (some (.int (bI (isD b n k = true)))) (I, J, R, G) := by
  have h400 := hT.1
  by_cases hn : k < n
  · have b8 := (hT.2 k (by omega)).1
    by_cases hl : sb (b k) < 48
    · show zOk x d 118 0 [.ref 51, .int (nI k)] [] _ _
      refine k_iload f118_0 rfl ?_
      refine k_aload f118_1 rfl ?_
      refine k_gI (w := nI n) f118_2 hS.o51 rfl h1 ?_
      refine k_ic_ge f118_5 (fun h_ => absurd h_ (nI_ge hn (by omega))) (fun _ => ?_)
      refine k_aload f118_8 rfl ?_
      refine k_getr (q := 52) f118_9 hS.o51 rfl hR.r51_0 ?_
      refine k_iload f118_12 rfl ?_
      refine k_ba (k := k) (w := sb (b k)) f118_13 hS.a52 rfl (by omega) (by decide) (hT.2 k (by omega)).2.2 ?_
      refine k_iconst (v := 48) f118_14 rfl ?_
      refine k_ic_lt f118_16 (fun _ => ?_) (fun h_ => absurd (hl) h_)
      refine k_iconst (v := 0) f118_34 rfl ?_
      exact k_iret f118_35 (by decide) ⟨bI_f (fun z => ((sb_all _ b8).2.2.1.mpr (of_decide_eq_true z).2).1 hl), rfl⟩
    · by_cases hh : 57 < sb (b k)
      · show zOk x d 118 0 [.ref 51, .int (nI k)] [] _ _
        refine k_iload f118_0 rfl ?_
        refine k_aload f118_1 rfl ?_
        refine k_gI (w := nI n) f118_2 hS.o51 rfl h1 ?_
        refine k_ic_ge f118_5 (fun h_ => absurd h_ (nI_ge hn (by omega))) (fun _ => ?_)
        refine k_aload f118_8 rfl ?_
        refine k_getr (q := 52) f118_9 hS.o51 rfl hR.r51_0 ?_
        refine k_iload f118_12 rfl ?_
        refine k_ba (k := k) (w := sb (b k)) f118_13 hS.a52 rfl (by omega) (by decide) (hT.2 k (by omega)).2.2 ?_
        refine k_iconst (v := 48) f118_14 rfl ?_
        refine k_ic_lt f118_16 (fun h_ => absurd h_ (hl)) (fun _ => ?_)
        refine k_aload f118_19 rfl ?_
        refine k_getr (q := 52) f118_20 hS.o51 rfl hR.r51_0 ?_
        refine k_iload f118_23 rfl ?_
        refine k_ba (k := k) (w := sb (b k)) f118_24 hS.a52 rfl (by omega) (by decide) (hT.2 k (by omega)).2.2 ?_
        refine k_iconst (v := 57) f118_25 rfl ?_
        refine k_ic_gt f118_27 (fun _ => ?_) (fun h_ => absurd (hh) h_)
        refine k_iconst (v := 0) f118_34 rfl ?_
        exact k_iret f118_35 (by decide) ⟨bI_f (fun z => ((sb_all _ b8).2.2.1.mpr (of_decide_eq_true z).2).2 hh), rfl⟩
      · show zOk x d 118 0 [.ref 51, .int (nI k)] [] _ _
        refine k_iload f118_0 rfl ?_
        refine k_aload f118_1 rfl ?_
        refine k_gI (w := nI n) f118_2 hS.o51 rfl h1 ?_
        refine k_ic_ge f118_5 (fun h_ => absurd h_ (nI_ge hn (by omega))) (fun _ => ?_)
        refine k_aload f118_8 rfl ?_
        refine k_getr (q := 52) f118_9 hS.o51 rfl hR.r51_0 ?_
        refine k_iload f118_12 rfl ?_
        refine k_ba (k := k) (w := sb (b k)) f118_13 hS.a52 rfl (by omega) (by decide) (hT.2 k (by omega)).2.2 ?_
        refine k_iconst (v := 48) f118_14 rfl ?_
        refine k_ic_lt f118_16 (fun h_ => absurd h_ (hl)) (fun _ => ?_)
        refine k_aload f118_19 rfl ?_
        refine k_getr (q := 52) f118_20 hS.o51 rfl hR.r51_0 ?_
        refine k_iload f118_23 rfl ?_
        refine k_ba (k := k) (w := sb (b k)) f118_24 hS.a52 rfl (by omega) (by decide) (hT.2 k (by omega)).2.2 ?_
        refine k_iconst (v := 57) f118_25 rfl ?_
        refine k_ic_gt f118_27 (fun h_ => absurd h_ (hh)) (fun _ => ?_)
        refine k_iconst (v := 1) f118_30 rfl ?_
        refine k_goto f118_31 ?_
        exact k_iret f118_35 (by decide) ⟨bI_t (decide_eq_true ⟨hn, (sb_all _ b8).2.2.1.mp ⟨hl, hh⟩⟩), rfl⟩
  · show zOk x d 118 0 [.ref 51, .int (nI k)] [] _ _
    refine k_iload f118_0 rfl ?_
    refine k_aload f118_1 rfl ?_
    refine k_gI (w := nI n) f118_2 hS.o51 rfl h1 ?_
    refine k_ic_ge f118_5 (fun _ => ?_) (fun h_ => absurd (nI_le (by omega) (by omega)) h_)
    refine k_iconst (v := 0) f118_34 rfl ?_
    exact k_iret f118_35 (by decide) ⟨bI_f (fun z => hn (of_decide_eq_true z).1), rfl⟩
theorem s_isLetter {x : Nat × (Nat → Int32)} {d : Nat} {I : Nat → Nat → Int32} {J : Nat → Nat → Int64} {R : Nat → Nat → Option Nat} {G : zG} {b : Nat → Nat} {n k : Nat} (hR : Rs R) (hS : Sh G) (hT : TP I b n) (h1 : I 51 1 = nI n) (hk : k ≤ 400) : zRn x d 119 [.ref 51, .int (nI k)] (I, J, R, G) (some (.int (bI (isL b n k = true)))) (I, J, R, G) := by
  have h400 := hT.1
  by_cases hn : k < n
  · have b8 := (hT.2 k (by omega)).1
    by_cases hl : sb (b k) < 97
    · show zOk x d 119 0 [.ref 51, .int (nI k)] [] _ _
      refine k_iload f119_0 rfl ?_
      refine k_aload f119_1 rfl ?_
      refine k_gI (w := nI n) f119_2 hS.o51 rfl h1 ?_
      refine k_ic_ge f119_5 (fun h_ => absurd h_ (nI_ge hn (by omega))) (fun _ => ?_)
      refine k_aload f119_8 rfl ?_
      refine k_getr (q := 52) f119_9 hS.o51 rfl hR.r51_0 ?_
      refine k_iload f119_12 rfl ?_
      refine k_ba (k := k) (w := sb (b k)) f119_13 hS.a52 rfl (by omega) (by decide) (hT.2 k (by omega)).2.2 ?_
      refine k_iconst (v := 97) f119_14 rfl ?_
      refine k_ic_lt f119_16 (fun _ => ?_) (fun h_ => absurd (hl) h_)
      refine k_iconst (v := 0) f119_34 rfl ?_
      exact k_iret f119_35 (by decide) ⟨bI_f (fun z => ((sb_all _ b8).2.1.mpr (of_decide_eq_true z).2).1 hl), rfl⟩
    · by_cases hh : 122 < sb (b k)
      · show zOk x d 119 0 [.ref 51, .int (nI k)] [] _ _
        refine k_iload f119_0 rfl ?_
        refine k_aload f119_1 rfl ?_
        refine k_gI (w := nI n) f119_2 hS.o51 rfl h1 ?_
        refine k_ic_ge f119_5 (fun h_ => absurd h_ (nI_ge hn (by omega))) (fun _ => ?_)
        refine k_aload f119_8 rfl ?_
        refine k_getr (q := 52) f119_9 hS.o51 rfl hR.r51_0 ?_
        refine k_iload f119_12 rfl ?_
        refine k_ba (k := k) (w := sb (b k)) f119_13 hS.a52 rfl (by omega) (by decide) (hT.2 k (by omega)).2.2 ?_
        refine k_iconst (v := 97) f119_14 rfl ?_
        refine k_ic_lt f119_16 (fun h_ => absurd h_ (hl)) (fun _ => ?_)
        refine k_aload f119_19 rfl ?_
        refine k_getr (q := 52) f119_20 hS.o51 rfl hR.r51_0 ?_
        refine k_iload f119_23 rfl ?_
        refine k_ba (k := k) (w := sb (b k)) f119_24 hS.a52 rfl (by omega) (by decide) (hT.2 k (by omega)).2.2 ?_
        refine k_iconst (v := 122) f119_25 rfl ?_
        refine k_ic_gt f119_27 (fun _ => ?_) (fun h_ => absurd (hh) h_)
        refine k_iconst (v := 0) f119_34 rfl ?_
        exact k_iret f119_35 (by decide) ⟨bI_f (fun z => ((sb_all _ b8).2.1.mpr (of_decide_eq_true z).2).2 hh), rfl⟩
      · show zOk x d 119 0 [.ref 51, .int (nI k)] [] _ _
        refine k_iload f119_0 rfl ?_
        refine k_aload f119_1 rfl ?_
        refine k_gI (w := nI n) f119_2 hS.o51 rfl h1 ?_
        refine k_ic_ge f119_5 (fun h_ => absurd h_ (nI_ge hn (by omega))) (fun _ => ?_)
        refine k_aload f119_8 rfl ?_
        refine k_getr (q := 52) f119_9 hS.o51 rfl hR.r51_0 ?_
        refine k_iload f119_12 rfl ?_
        refine k_ba (k := k) (w := sb (b k)) f119_13 hS.a52 rfl (by omega) (by decide) (hT.2 k (by omega)).2.2 ?_
        refine k_iconst (v := 97) f119_14 rfl ?_
        refine k_ic_lt f119_16 (fun h_ => absurd h_ (hl)) (fun _ => ?_)
        refine k_aload f119_19 rfl ?_
        refine k_getr (q := 52) f119_20 hS.o51 rfl hR.r51_0 ?_
        refine k_iload f119_23 rfl ?_
        refine k_ba (k := k) (w := sb (b k)) f119_24 hS.a52 rfl (by omega) (by decide) (hT.2 k (by omega)).2.2 ?_
        refine k_iconst (v := 122) f119_25 rfl ?_
        refine k_ic_gt f119_27 (fun h_ => absurd h_ (hh)) (fun _ => ?_)
        refine k_iconst (v := 1) f119_30 rfl ?_
        refine k_goto f119_31 ?_
        exact k_iret f119_35 (by decide) ⟨bI_t (decide_eq_true ⟨hn, (sb_all _ b8).2.1.mp ⟨hl, hh⟩⟩), rfl⟩
  · show zOk x d 119 0 [.ref 51, .int (nI k)] [] _ _
    refine k_iload f119_0 rfl ?_
    refine k_aload f119_1 rfl ?_
    refine k_gI (w := nI n) f119_2 hS.o51 rfl h1 ?_
    refine k_ic_ge f119_5 (fun _ => ?_) (fun h_ => absurd (nI_le (by omega) (by omega)) h_)
    refine k_iconst (v := 0) f119_34 rfl ?_
    exact k_iret f119_35 (by decide) ⟨bI_f (fun z => hn (of_decide_eq_true z).1), rfl⟩
theorem lp_pass {x : Nat × (Nat → Int32)} {d : Nat} {J : Nat → Nat → Int64} {R : Nat → Nat → Option Nat} {G : zG} {I0 : Nat → Nat → Int32} {b : Nat → Nat} {n : Nat} (hR : Rs R) (hS : Sh G) (hT0 : TP I0 b n) : ∀ (f p : Nat) (I : Nat → Nat → Int32), p + f = n → RX I n p → LX I0 I → zOk x (d + 1) 121 0 [.ref 51] [] (I, J, R, G) (fun v m => v = none ∧ ∃ I', m = (I', J, R, G) ∧ RX I' n (wl b n p) ∧ LX I0 I') := by
  have h400 := hT0.1
  intro f
  induction f with
  | zero =>
    intro p I hp hx hl
    have hT := hl.tp hT0
    have h : ¬ isL b n p = true := fun h => absurd (isL_lt h) (by omega)
    rw [show wl b n p = p from rE_n h]
    refine k_aload f121_0 rfl ?_
    refine k_aload f121_1 rfl ?_
    refine k_gI (w := nI p) f121_2 hS.o51 rfl hx.1 ?_
    refine e_v (as := [.int (nI p)]) (rest := []) f121_5 hS.o51 rfl rfl rfl (s_isLetter (k := p) hR hS hT hx.2.2.2 (by omega)) ?_
    refine k_beq f121_8 (fun _ => ?_) (fun h_ => (absurd h_ (h)))
    exact k_vret f121_24 ⟨rfl, I, rfl, hx, hl⟩
  | succ f ih =>
    intro p I hp hx hl
    have hT := hl.tp hT0
    by_cases h : isL b n p = true
    · rw [show wl b n p = wl b n (p + 1) from rE_y (fun _ => isL_lt) h]
      refine k_aload f121_0 rfl ?_
      refine k_aload f121_1 rfl ?_
      refine k_gI (w := nI p) f121_2 hS.o51 rfl hx.1 ?_
      refine e_v (as := [.int (nI p)]) (rest := []) f121_5 hS.o51 rfl rfl rfl (s_isLetter (k := p) hR hS hT hx.2.2.2 (by omega)) ?_
      refine k_beq f121_8 (fun h_ => absurd (h) h_) (fun _ => ?_)
      refine k_aload f121_11 rfl ?_
      refine k_dup f121_12 ?_
      refine k_gI (w := nI p) f121_13 hS.o51 rfl hx.1 ?_
      refine k_iconst (v := 1) f121_16 rfl ?_
      refine k_iadd f121_17 ?_
      rw [nI_1 p]
      refine k_putI f121_18 hS.o51 rfl ?_
      refine k_goto f121_21 ?_
      exact ih (p + 1) _ (by omega) ⟨z_u_same _ _ _ _, by omega, (z_u_k _ _ _ (by decide)).trans hx.2.2.1, (z_u_k _ _ _ (by decide)).trans hx.2.2.2⟩ (hl.put (by omega))
    · rw [show wl b n p = p from rE_n h]
      refine k_aload f121_0 rfl ?_
      refine k_aload f121_1 rfl ?_
      refine k_gI (w := nI p) f121_2 hS.o51 rfl hx.1 ?_
      refine e_v (as := [.int (nI p)]) (rest := []) f121_5 hS.o51 rfl rfl rfl (s_isLetter (k := p) hR hS hT hx.2.2.2 (by omega)) ?_
      refine k_beq f121_8 (fun _ => ?_) (fun h_ => (absurd h_ (h)))
      exact k_vret f121_24 ⟨rfl, I, rfl, hx, hl⟩
theorem q_pass {x : Nat × (Nat → Int32)} {d : Nat} {I : Nat → Nat → Int32} {J : Nat → Nat → Int64} {R : Nat → Nat → Option Nat} {G : zG} {b : Nat → Nat} {n p : Nat} (hR : Rs R) (hS : Sh G) (hT : TP I b n) (hx : RX I n p) : zOk x (d + 1) 121 0 [.ref 51] [] (I, J, R, G) (fun v m => v = none ∧ ∃ I', m = (I', J, R, G) ∧ RX I' n (wl b n p) ∧ LX I I') := lp_pass hR hS hT (n - p) p I (by have := hx.2.1; omega) hx LX.rfl
