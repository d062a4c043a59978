/-! A NUMBER: on both sides. -/
def vN (b : Nat → Nat) (n q : Nat) : Nat := vl b q (dg b n q - q)
/-- the number at q: its fault, or its value and where it ends -/
def nmQ (b : Nat → Nat) (n lo hi q : Nat) : Sum Nat (Nat × Nat) := if isD b n q = true then (if dg b n q - q ≤ 5 ∧ lo ≤ vN b n q ∧ vN b n q ≤ hi then .inr (vN b n q, dg b n q) else .inl (1 + 8 * q + 1)) else .inl (1 + 8 * q)
def NR (I : Nat → Nat → Int32) (n : Nat) (v : Option Value) : Sum Nat (Nat × Nat) → Prop
  | .inl e => v = some (.int 0) ∧ I 51 14 = nI e
  | .inr z => v = some (.int 1) ∧ RX I n z.2 ∧ I 51 15 = nI z.1
theorem vN_lt {b : Nat → Nat} {n q : Nat} (hq : q ≤ n) (h : dg b n q - q ≤ 5) : vN b n q < 100000 := by
  have a := vl_lt (b := b) (n := n) (q := q) (dg b n q - q) fun i h1 h2 => (rE_p (P := isD b n) (fun _ => isD_lt) hq).2.2.2 i h1 (show i < dg b n q by omega)
  have : 10 ^ (dg b n q - q) ≤ 10 ^ 5 := Nat.pow_le_pow_right (by omega) h
  unfold vN
  omega
theorem vl_b {b : Nat → Nat} {n q k : Nat} (hk : k ≤ 5) (h : ∀ i, q ≤ i → i < q + k → isD b n i = true) : vl b q k < 100000 := by
  have a := vl_lt (b := b) (n := n) (q := q) k h
  have : 10 ^ k ≤ 10 ^ 5 := Nat.pow_le_pow_right (by omega) hk
  omega
theorem vl_s {b : Nat → Nat} {q i : Nat} (hq : q ≤ i) (h48 : 48 ≤ b i) : ((10 : Int32) * nI (vl b q (i - q)) + nI (b i)) - 48 = nI (vl b q (i + 1 - q)) := by
  rw [show i + 1 - q = (i - q) + 1 by omega]
  show _ = nI (vl b q (i - q) * 10 + b (q + (i - q)) - 48)
  rw [show q + (i - q) = i by omega]
  have e : (10 : Int32) * nI (vl b q (i - q)) + nI (b i) = nI (vl b q (i - q) * 10 + b i) := by
    rw [show (10 : Int32) = nI 10 from rfl, ← nI_add, Nat.mul_comm, pk_mul]
  rw [e]
  obtain ⟨c, hc⟩ : ∃ c, vl b q (i - q) * 10 + b i = c + 48 := ⟨vl b q (i - q) * 10 + b i - 48, by omega⟩
  rw [hc, Nat.add_sub_cancel, ← nI_add, show (48 : Int32) = nI 48 from rfl]
  exact Int32.add_sub_cancel _ _
theorem lp_num {x : Nat × (Nat → Int32)} {d : Nat} {J : Nat → Nat → Int64} {R : Nat → Nat → Option Nat} {G : zG} {I0 : Nat → Nat → Int32} {b : Nat → Nat} {n q : Nat} {lo hi : Int32} {Q : Option Value → zM → Prop} (hR : Rs R) (hS : Sh G) (hT0 : TP I0 b n) : ∀ (f i : Nat) (I : Nat → Nat → Int32), i + f = n → q ≤ i → RX I n i → LX I0 I → (∀ I', RX I' n (dg b n i) → LX I0 I' → zOk x (d + 1) 122 88 [.ref 51, .int (lo), .int (hi), .int (nI q), .int (nI (vl b q (min (dg b n i - q) 5)))] [] (I', J, R, G) Q) → zOk x (d + 1) 122 34 [.ref 51, .int (lo), .int (hi), .int (nI q), .int (nI (vl b q (min (i - q) 5)))] [] (I, J, R, G) Q := by
  have h400 := hT0.1
  intro f
  induction f with
  | zero =>
    intro i I hif hq hx hl hk
    have hT := hl.tp hT0
    have h : ¬ isD b n i = true := fun h => absurd (isD_lt h) (by omega)
    rw [show dg b n i = i from rE_n h] at hk
    refine k_aload f122_34 rfl ?_
    refine k_aload f122_35 rfl ?_
    refine k_gI (w := nI i) f122_36 hS.o51 rfl hx.1 ?_
    refine e_v (as := [.int (nI i)]) (rest := []) f122_39 hS.o51 rfl rfl rfl (s_isDigit (k := i) hR hS hT hx.2.2.2 (by omega)) ?_
    refine k_beq f122_42 (fun _ => ?_) (fun h_ => (absurd h_ (h)))
    exact hk I hx hl
  | succ f ih =>
    intro i I hif hq hx hl hk
    have hT := hl.tp hT0
    by_cases h : isD b n i = true
    · rw [show dg b n i = dg b n (i + 1) from rE_y (fun _ => isD_lt) h] at hk
      have bl := (of_decide_eq_true h).2
      by_cases h5 : i - q < 5
      · refine k_aload f122_34 rfl ?_
        refine k_aload f122_35 rfl ?_
        refine k_gI (w := nI i) f122_36 hS.o51 rfl hx.1 ?_
        refine e_v (as := [.int (nI i)]) (rest := []) f122_39 hS.o51 rfl rfl rfl (s_isDigit (k := i) hR hS hT hx.2.2.2 (by omega)) ?_
        refine k_beq f122_42 (fun h_ => absurd (h) h_) (fun _ => ?_)
        refine k_aload f122_45 rfl ?_
        refine k_gI (w := nI i) f122_46 hS.o51 rfl hx.1 ?_
        refine k_iload f122_49 rfl ?_
        refine k_isub f122_50 ?_
        rw [nI_sb hq]
        refine k_iconst (v := 5) f122_51 rfl ?_
        refine k_ic_ge f122_52 (fun h_ => absurd h_ (nI_ge (b := 5) h5 (by omega))) (fun _ => ?_)
        refine k_iconst (v := 10) f122_55 rfl ?_
        refine k_iload f122_57 rfl ?_
        refine k_imul f122_59 ?_
        refine k_aload f122_60 rfl ?_
        refine k_getr (q := 52) f122_61 hS.o51 rfl hR.r51_0 ?_
        refine k_aload f122_64 rfl ?_
        refine k_gI (w := nI i) f122_65 hS.o51 rfl hx.1 ?_
        refine k_ba (k := i) (w := nI (b i)) f122_68 hS.a52 rfl (by omega) (by decide) ((hT.2 i (by omega)).2.2.trans ((sb_all _ (by omega)).2.2.2.2.1 (by omega))) ?_
        refine k_iadd f122_69 ?_
        refine k_iconst (v := 48) f122_70 rfl ?_
        refine k_isub f122_72 ?_
        rw [show min (i - q) 5 = i - q by omega, vl_s hq bl.1]
        refine k_istore (L' := [.ref 51, .int (lo), .int (hi), .int (nI q), .int (nI (vl b q (i + 1 - q)))]) f122_73 rfl rfl ?_
        refine k_aload f122_75 rfl ?_
        refine k_dup f122_76 ?_
        refine k_gI (w := nI i) f122_77 hS.o51 rfl hx.1 ?_
        refine k_iconst (v := 1) f122_80 rfl ?_
        refine k_iadd f122_81 ?_
        rw [nI_1 i]
        refine k_putI f122_82 hS.o51 rfl ?_
        refine k_goto f122_85 ?_
        have e := ih (i + 1) (z_u I 51 13 (nI (i + 1))) (by omega) (by omega) ⟨z_u_same _ _ _ _, by omega, (z_u_k _ _ _ (by decide)).trans hx.2.2.1, (z_u_k _ _ _ (by decide)).trans hx.2.2.2⟩ (hl.put (by omega)) hk
        rw [show min (i + 1 - q) 5 = i + 1 - q by omega] at e
        exact e
      · refine k_aload f122_34 rfl ?_
        refine k_aload f122_35 rfl ?_
        refine k_gI (w := nI i) f122_36 hS.o51 rfl hx.1 ?_
        refine e_v (as := [.int (nI i)]) (rest := []) f122_39 hS.o51 rfl rfl rfl (s_isDigit (k := i) hR hS hT hx.2.2.2 (by omega)) ?_
        refine k_beq f122_42 (fun h_ => absurd (h) h_) (fun _ => ?_)
        refine k_aload f122_45 rfl ?_
        refine k_gI (w := nI i) f122_46 hS.o51 rfl hx.1 ?_
        refine k_iload f122_49 rfl ?_
        refine k_isub f122_50 ?_
        rw [nI_sb hq]
        refine k_iconst (v := 5) f122_51 rfl ?_
        refine k_ic_ge f122_52 (fun _ => ?_) (fun h_ => absurd (nI_le (a := 5) (by omega) (by omega)) h_)
        refine k_aload f122_75 rfl ?_
        refine k_dup f122_76 ?_
        refine k_gI (w := nI i) f122_77 hS.o51 rfl hx.1 ?_
        refine k_iconst (v := 1) f122_80 rfl ?_
        refine k_iadd f122_81 ?_
        rw [nI_1 i]
        refine k_putI f122_82 hS.o51 rfl ?_
        refine k_goto f122_85 ?_
        have e := ih (i + 1) (z_u I 51 13 (nI (i + 1))) (by omega) (by omega) ⟨z_u_same _ _ _ _, by omega, (z_u_k _ _ _ (by decide)).trans hx.2.2.1, (z_u_k _ _ _ (by decide)).trans hx.2.2.2⟩ (hl.put (by omega)) hk
        rw [show min (i + 1 - q) 5 = min (i - q) 5 by omega] at e
        exact e
    · rw [show dg b n i = i from rE_n h] at hk
      refine k_aload f122_34 rfl ?_
      refine k_aload f122_35 rfl ?_
      refine k_gI (w := nI i) f122_36 hS.o51 rfl hx.1 ?_
      refine e_v (as := [.int (nI i)]) (rest := []) f122_39 hS.o51 rfl rfl rfl (s_isDigit (k := i) hR hS hT hx.2.2.2 (by omega)) ?_
      refine k_beq f122_42 (fun _ => ?_) (fun h_ => (absurd h_ (h)))
      exact hk I hx hl
theorem q_num {x : Nat × (Nat → Int32)} {d : Nat} {I : Nat → Nat → Int32} {J : Nat → Nat → Int64} {R : Nat → Nat → Option Nat} {G : zG} {b : Nat → Nat} {n p lo hi : Nat} (hR : Rs R) (hS : Sh G) (hT : TP I b n) (hx : RX I n p) (hlo : lo < 100000) (hhi : hi < 100000) : zOk x (d + 1) 122 0 [.ref 51, .int (nI lo), .int (nI hi), zU, zU] [] (I, J, R, G) (fun v m => ∃ I', m = (I', J, R, G) ∧ LX I I' ∧ NR I' n v (nmQ b n lo hi (bk b n p))) := by
  have h400 := hT.1
  have hp := hx.2.1
  refine k_aload f122_0 rfl ?_
  refine k_callv (as := []) (rest := []) f122_1 hS.o51 rfl rfl rfl rfl (q_see (p := p) hR hS hT hx) ?_
  rintro _ _ ⟨rfl, I1, rfl, hx1, hl1⟩
  have hT1 := hl1.tp hT
  obtain ⟨q, eq⟩ : ∃ q, q = bk b n p := ⟨_, rfl⟩
  rw [← eq] at hx1 ⊢
  have hq := hx1.2.1
  refine k_popi f122_4 ?_
  by_cases hD : isD b n q = true
  · refine k_aload f122_5 rfl ?_
    refine k_aload f122_6 rfl ?_
    refine k_gI (w := nI q) f122_7 hS.o51 rfl hx1.1 ?_
    refine e_v (as := [.int (nI q)]) (rest := []) f122_10 hS.o51 rfl rfl rfl (s_isDigit (k := q) hR hS hT1 hx1.2.2.2 (by omega)) ?_
    refine k_bne f122_13 (fun _ => ?_) (fun h_ => absurd (hD) h_)
    refine k_aload f122_26 rfl ?_
    refine k_gI (w := nI q) f122_27 hS.o51 rfl hx1.1 ?_
    refine k_istore (L' := [.ref 51, .int (nI lo), .int (nI hi), .int (nI q), zU]) f122_30 rfl rfl ?_
    refine k_iconst (v := 0) f122_31 rfl ?_
    refine k_istore (L' := [.ref 51, .int (nI lo), .int (nI hi), .int (nI q), .int (0)]) f122_32 rfl rfl ?_
    have hd := dg_le (b := b) hq
    have hd1 := dg_lt hD
    refine (fun h => ?_) (lp_num (x := x) (d := d) (J := J) (q := q) (lo := nI lo) (hi := nI hi) (Q := (fun v m => ∃ I', m = (I', J, R, G) ∧ LX I I' ∧ NR I' n v (nmQ b n lo hi (q)))) hR hS hT1 (n - q) q I1 (by omega) (Nat.le_refl _) hx1 LX.rfl)
    rw [Nat.sub_self] at h
    refine h (fun I2 hx2 hl2 => ?_)
    have hl3 := hl1.trans hl2
    obtain ⟨e, ee⟩ : ∃ e, e = dg b n q := ⟨_, rfl⟩
    rw [← ee] at hx2 hd hd1 ⊢
    have hN : nmQ b n lo hi q = if e - q ≤ 5 ∧ lo ≤ vN b n q ∧ vN b n q ≤ hi then .inr (vN b n q, e) else .inl (1 + 8 * q + 1) := by rw [ee]; exact if_pos hD
    have ev : vN b n q = vl b q (e - q) := by rw [ee]; rfl
    by_cases h5 : e - q ≤ 5
    · have v5 : vl b q (e - q) < 100000 := by rw [← ev]; exact vN_lt hq (by rw [← ee]; exact h5)
      rw [show min (e - q) 5 = e - q by omega]
      by_cases hg : lo ≤ vN b n q ∧ vN b n q ≤ hi
      · refine k_aload f122_88 rfl ?_
        refine k_iload f122_89 rfl ?_
        refine k_putI f122_91 hS.o51 rfl ?_
        refine k_aload f122_94 rfl ?_
        refine k_gI (w := nI e) f122_95 hS.o51 rfl (Eq.trans (z_u_k _ _ _ (by decide)) hx2.1) ?_
        refine k_iload f122_98 rfl ?_
        refine k_isub f122_99 ?_
        rw [nI_sb hd.1]
        refine k_iconst (v := 5) f122_100 rfl ?_
        refine k_ic_gt f122_101 (fun h_ => absurd h_ ((fun z => absurd ((nI_ltI (a := 5) (by omega) (by omega)).mp z) (by omega)))) (fun _ => ?_)
        refine k_iload f122_104 rfl ?_
        refine k_i2l f122_106 ?_
        refine k_iload f122_107 rfl ?_
        refine k_i2l f122_108 ?_
        refine k_iload f122_109 rfl ?_
        refine k_i2l f122_110 ?_
        refine e_s (as := [.long ((nI hi).toInt64), .long ((nI lo).toInt64), .long ((nI (vl b q (e - q))).toInt64)]) (rest := []) f122_111 rfl rfl rfl (s_in (nI lo) (nI hi) rfl rfl) ?_
        refine k_bne f122_114 (fun _ => ?_) (fun h_ => absurd (⟨fun z => absurd ((nI_ltI (by omega) (by omega)).mp z) (by omega), fun z => absurd ((nI_ltI (by omega) (by omega)).mp z) (by omega)⟩) h_)
        refine k_iconst (v := 1) f122_126 rfl ?_
        refine k_goto f122_127 ?_
        exact k_iret f122_131 (by decide) ⟨_, rfl, hl3.put (by omega), by rw [hN, if_pos ⟨h5, hg⟩, ev]; exact ⟨rfl, ⟨(z_u_k _ _ _ (by decide)).trans hx2.1, hx2.2.1, (z_u_k _ _ _ (by decide)).trans hx2.2.2.1, (z_u_k _ _ _ (by decide)).trans hx2.2.2.2⟩, z_u_same _ _ _ _⟩⟩
      · refine k_aload f122_88 rfl ?_
        refine k_iload f122_89 rfl ?_
        refine k_putI f122_91 hS.o51 rfl ?_
        refine k_aload f122_94 rfl ?_
        refine k_gI (w := nI e) f122_95 hS.o51 rfl (Eq.trans (z_u_k _ _ _ (by decide)) hx2.1) ?_
        refine k_iload f122_98 rfl ?_
        refine k_isub f122_99 ?_
        rw [nI_sb hd.1]
        refine k_iconst (v := 5) f122_100 rfl ?_
        refine k_ic_gt f122_101 (fun h_ => absurd h_ ((fun z => absurd ((nI_ltI (a := 5) (by omega) (by omega)).mp z) (by omega)))) (fun _ => ?_)
        refine k_iload f122_104 rfl ?_
        refine k_i2l f122_106 ?_
        refine k_iload f122_107 rfl ?_
        refine k_i2l f122_108 ?_
        refine k_iload f122_109 rfl ?_
        refine k_i2l f122_110 ?_
        refine e_s (as := [.long ((nI hi).toInt64), .long ((nI lo).toInt64), .long ((nI (vl b q (e - q))).toInt64)]) (rest := []) f122_111 rfl rfl rfl (s_in (nI lo) (nI hi) rfl rfl) ?_
        refine k_bne f122_114 (fun h_ => absurd h_ ((fun z => hg ⟨by rw [ev]; exact Nat.not_lt.mp fun w => z.1 ((nI_ltI (by omega) (by omega)).mpr w), by rw [ev]; exact Nat.not_lt.mp fun w => z.2 ((nI_ltI (by omega) (by omega)).mpr w)⟩))) (fun _ => ?_)
        refine k_aload f122_117 rfl ?_
        refine k_iconst (v := 1) f122_118 rfl ?_
        refine k_iload f122_119 rfl ?_
        refine e_v (as := [.int (nI q), .int (1)]) (rest := []) f122_120 hS.o51 rfl rfl rfl (s_fails (w := 1) (a := q) hS ((z_u_k _ _ _ (by decide)).trans hx2.2.2.1)) ?_
        refine k_if_eq f122_123 (fun _ => ?_) (fun h_ => absurd (by decide) h_)
        refine k_iconst (v := 0) f122_130 rfl ?_
        exact k_iret f122_131 (by decide) ⟨_, rfl, (hl3.put (by omega)).put (by omega), by rw [hN, if_neg (fun z => hg z.2)]; exact ⟨rfl, z_u_same _ _ _ _⟩⟩
    · refine k_aload f122_88 rfl ?_
      refine k_iload f122_89 rfl ?_
      refine k_putI f122_91 hS.o51 rfl ?_
      refine k_aload f122_94 rfl ?_
      refine k_gI (w := nI e) f122_95 hS.o51 rfl (Eq.trans (z_u_k _ _ _ (by decide)) hx2.1) ?_
      refine k_iload f122_98 rfl ?_
      refine k_isub f122_99 ?_
      rw [nI_sb hd.1]
      refine k_iconst (v := 5) f122_100 rfl ?_
      refine k_ic_gt f122_101 (fun _ => ?_) (fun h_ => absurd (nI_lt (a := 5) (by omega) (by omega)) h_)
      refine k_aload f122_117 rfl ?_
      refine k_iconst (v := 1) f122_118 rfl ?_
      refine k_iload f122_119 rfl ?_
      refine e_v (as := [.int (nI q), .int (1)]) (rest := []) f122_120 hS.o51 rfl rfl rfl (s_fails (w := 1) (a := q) hS ((z_u_k _ _ _ (by decide)).trans hx2.2.2.1)) ?_
      refine k_if_eq f122_123 (fun _ => ?_) (fun h_ => absurd (by decide) h_)
      refine k_iconst (v := 0) f122_130 rfl ?_
      exact k_iret f122_131 (by decide) ⟨_, rfl, (hl3.put (by omega)).put (by omega), by rw [hN, if_neg (fun z => h5 z.1)]; exact ⟨rfl, z_u_same _ _ _ _⟩⟩
  · refine k_aload f122_5 rfl ?_
    refine k_aload f122_6 rfl ?_
    refine k_gI (w := nI q) f122_7 hS.o51 rfl hx1.1 ?_
    refine e_v (as := [.int (nI q)]) (rest := []) f122_10 hS.o51 rfl rfl rfl (s_isDigit (k := q) hR hS hT1 hx1.2.2.2 (by omega)) ?_
    refine k_bne f122_13 (fun h_ => absurd h_ (hD)) (fun _ => ?_)
    refine k_aload f122_16 rfl ?_
    refine k_iconst (v := 0) f122_17 rfl ?_
    refine k_aload f122_18 rfl ?_
    refine k_gI (w := nI q) f122_19 hS.o51 rfl hx1.1 ?_
    refine e_v (as := [.int (nI q), .int (0)]) (rest := []) f122_22 hS.o51 rfl rfl rfl (s_fails (w := 0) (a := q) hS hx1.2.2.1) ?_
    exact k_iret f122_25 (by decide) ⟨_, rfl, hl1.put (by omega), by rw [show nmQ b n lo hi q = .inl (1 + 8 * q) from if_neg hD]; exact ⟨rfl, z_u_same _ _ _ _⟩⟩
