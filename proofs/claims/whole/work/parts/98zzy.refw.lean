/-! THE REFERENCE: a word, a number. -/
def pv (t : Nat → Nat) : Nat → Nat
  | 0 => 0
  | k + 1 => pv t k * 256 + t k
theorem pv_0 {t : Nat → Nat} {k : Nat} (h : ∀ i, i < k + 1 → 1 ≤ t i ∧ t i < 256) : pv t (k + 1) ≠ 0 := by
  have := (h k (by omega)).1
  show pv t k * 256 + t k ≠ 0
  omega
theorem pv_inj {t u : Nat → Nat} : ∀ (k l : Nat), (∀ i, i < k → 1 ≤ t i ∧ t i < 256) → (∀ i, i < l → 1 ≤ u i ∧ u i < 256) → (pv t k = pv u l ↔ k = l ∧ ∀ i, i < k → t i = u i) := by
  intro k
  induction k with
  | zero =>
    intro l _ hu
    cases l with
    | zero => exact ⟨fun _ => ⟨rfl, fun i hi => absurd hi (Nat.not_lt_zero _)⟩, fun _ => rfl⟩
    | succ l => exact ⟨fun h => absurd h.symm (pv_0 hu), fun h => absurd h.1 (by omega)⟩
  | succ k ih =>
    intro l ht hu
    cases l with
    | zero => exact ⟨fun h => absurd h (pv_0 ht), fun h => absurd h.1 (by omega)⟩
    | succ l =>
      have a := ht k (by omega)
      have c := hu l (by omega)
      have i := ih l (fun i hi => ht i (by omega)) (fun i hi => hu i (by omega))
      show pv t k * 256 + t k = pv u l * 256 + u l ↔ _
      constructor
      · intro h
        have h1 : pv t k = pv u l := by omega
        have h2 : t k = u l := by omega
        obtain ⟨e, g⟩ := i.mp h1
        subst e
        refine ⟨rfl, fun j hj => ?_⟩
        by_cases e : j = k
        · rw [e]; exact h2
        · exact g j (by omega)
      · rintro ⟨e, g⟩
        have e : k = l := by omega
        subst e
        rw [i.mpr ⟨rfl, fun j hj => g j (by omega)⟩, g k (by omega)]
theorem pv_lt {t : Nat → Nat} : ∀ k, (∀ i, i < k → t i < 256) → pv t k < 256 ^ k := by
  intro k
  induction k with
  | zero => intro _; exact Nat.one_pos
  | succ k ih =>
    intro h
    have a := ih fun i hi => h i (by omega)
    have c := h k (by omega)
    show pv t k * 256 + t k < 256 ^ (k + 1)
    rw [Nat.pow_succ]
    omega
theorem sb_l : ∀ c, c < 128 → (sb c).toInt64 = Int64.ofNat c := by decide +kernel
theorem sh_8 {a c : Nat} (hc : c < 128) : ((Int64.ofNat a) <<< ((8 : Int32).toInt64 &&& 63)) ||| ((sb c).toInt64) = Int64.ofNat (a * 256 + c) := by
  rw [sb_l c hc, show (8 : Int32).toInt64 &&& 63 = 8 from by decide]
  apply Int64.toBitVec_inj.mp
  rw [Int64.toBitVec_or, Int64.toBitVec_shiftLeft, show ((8 : Int64).toBitVec.smod 64) = 8#64 from by decide]
  simp only [Int64.toBitVec_ofNat']
  apply BitVec.eq_of_toNat_eq
  simp only [BitVec.toNat_or, BitVec.toNat_shiftLeft, BitVec.toNat_ofNat, BitVec.shiftLeft_eq']
  rw [show (8 % 2 ^ 64 : Nat) = 8 from by decide, Nat.shiftLeft_eq, show c % 2 ^ 64 = c from Nat.mod_eq_of_lt (by omega)]
  have e : a % 2 ^ 64 * 2 ^ 8 % 2 ^ 64 = 2 ^ 8 * (a % 2 ^ 56) := by omega
  rw [e, ← Nat.two_pow_add_eq_or_of_lt (show c < 2 ^ 8 by omega)]
  omega
theorem l_inj {a c : Nat} (ha : a < 2 ^ 63) (hc : c < 2 ^ 63) : Int64.ofNat a = Int64.ofNat c ↔ a = c := by
  refine ⟨fun h => ?_, fun h => by rw [h]⟩
  have := congrArg Int64.toInt h
  rw [Int64.toInt_ofNat_of_lt ha, Int64.toInt_ofNat_of_lt hc] at this
  omega
theorem wl_at {b : Nat → Nat} {n : Nat} : ∀ (i q : Nat), (∀ j, j < i → isL b n (q + j) = true) → ¬ isL b n (q + i) = true → wl b n q = q + i := by
  intro i
  induction i with
  | zero => intro q _ h; exact rE_n h
  | succ i ih =>
    intro q h1 h2
    have a := ih (q + 1) (fun j hj => by have := h1 (j + 1) (by omega); rw [show q + 1 + j = q + (j + 1) by omega]; exact this) (by rw [show q + 1 + i = q + (i + 1) by omega]; exact h2)
    rw [show wl b n q = wl b n (q + 1) from rE_y (fun _ => isL_lt) (h1 0 (by omega)), a]
    omega
/-- a word of letters, seven at most -/
def WdL (w : List Nat) : Prop := 0 < w.length ∧ w.length < 8 ∧ ∀ i, i < w.length → 97 ≤ w.getD i 0 ∧ w.getD i 0 ≤ 122
def pW (w : List Nat) : Int64 := Int64.ofNat (pv (fun i => w.getD i 0) w.length)
theorem pw_eq {b : Nat → Nat} {n q i : Nat} {w : List Nat} (hw : WdL w) (h0 : 0 < i) (h8 : i < 8) (hl : ∀ j, j < i → isL b n (q + j) = true) (he : wl b n q = q + i) : Int64.ofNat (pv (fun j => b (q + j)) i) = pW w ↔ tkB b n q w = true := by
  have lt : ∀ j, j < i → 97 ≤ b (q + j) ∧ b (q + j) ≤ 122 := fun j hj => (of_decide_eq_true (hl j hj)).2
  have a : pv (fun j => b (q + j)) i < 256 ^ i := pv_lt i fun j hj => by have := lt j hj; omega
  have c : pv (fun i => w.getD i 0) w.length < 256 ^ w.length := pv_lt _ fun j hj => by have := hw.2.2 j hj; omega
  have p1 : 256 ^ i ≤ 256 ^ 7 := Nat.pow_le_pow_right (by omega) (by omega)
  have p2 : 256 ^ w.length ≤ 256 ^ 7 := Nat.pow_le_pow_right (by omega) (by have := hw.2.1; omega)
  have p3 : 256 ^ 7 < 2 ^ 63 := by decide
  unfold pW
  rw [l_inj (by omega) (by omega), pv_inj _ _ (fun j hj => by have := lt j hj; omega) (fun j hj => by have := hw.2.2 j hj; omega), tk_iff]
  constructor
  · rintro ⟨e, g⟩
    exact ⟨hl 0 h0, by omega, fun j hj => g j (by omega)⟩
  · rintro ⟨_, e, g⟩
    exact ⟨by omega, fun j hj => g j (by omega)⟩
theorem lp_isWx {x : Nat × (Nat → Int32)} {d : Nat} {I : Nat → Nat → Int32} {J : Nat → Nat → Int64} {R : Nat → Nat → Option Nat} {G : zG} {b : Nat → Nat} {n q : Nat} {w : List Nat} (hR : Rs R) (hS : Sh G) (hT : TP I b n) (hx : RX I n q) (hw : WdL w) {i : Nat} (hl : ∀ j, j < i → isL b n (q + j) = true) (he : wl b n q = q + i) (h4 : i ≤ 400) : zOk x (d + 1) 120 56 [.ref 51, .long (pW w), zU, .long (Int64.ofNat (pv (fun j => b (q + j)) (min i 8))), zU, .int (nI i)] [] (I, J, R, G) (fun v m => v = some (.int (bI (tkB b n q w = true))) ∧ m = (I, J, R, G)) := by
  by_cases h0 : 0 < i
  · by_cases h8 : i < 8
    · rw [show min i 8 = i by omega]
      by_cases hv : Int64.ofNat (pv (fun j => b (q + j)) i) = pW w
      · refine k_iload f120_56 rfl ?_
        refine k_if_le f120_58 (fun h_ => absurd h_ (nI_ge (a := 0) h0 (by omega))) (fun _ => ?_)
        refine k_iload f120_61 rfl ?_
        refine k_iconst (v := 8) f120_63 rfl ?_
        refine k_ic_ge f120_65 (fun h_ => absurd h_ (nI_ge (b := 8) h8 (by omega))) (fun _ => ?_)
        refine k_lload f120_68 rfl ?_
        refine k_lload f120_69 rfl ?_
        refine k_lcmp f120_70 ?_
        refine k_if_ne f120_71 (fun h_ => absurd ((lg_eq _ _).mpr hv) h_) (fun _ => ?_)
        refine k_iconst (v := 1) f120_74 rfl ?_
        refine k_goto f120_75 ?_
        exact k_iret f120_79 (by decide) ⟨bI_t ((pw_eq hw h0 h8 hl he).mp hv), rfl⟩
      · refine k_iload f120_56 rfl ?_
        refine k_if_le f120_58 (fun h_ => absurd h_ (nI_ge (a := 0) h0 (by omega))) (fun _ => ?_)
        refine k_iload f120_61 rfl ?_
        refine k_iconst (v := 8) f120_63 rfl ?_
        refine k_ic_ge f120_65 (fun h_ => absurd h_ (nI_ge (b := 8) h8 (by omega))) (fun _ => ?_)
        refine k_lload f120_68 rfl ?_
        refine k_lload f120_69 rfl ?_
        refine k_lcmp f120_70 ?_
        refine k_if_ne f120_71 (fun _ => ?_) (fun h_ => absurd ((fun z => hv ((lg_eq _ _).mp z))) h_)
        refine k_iconst (v := 0) f120_78 rfl ?_
        exact k_iret f120_79 (by decide) ⟨bI_f (fun z => hv ((pw_eq hw h0 h8 hl he).mpr z)), rfl⟩
    · refine k_iload f120_56 rfl ?_
      refine k_if_le f120_58 (fun h_ => absurd h_ (nI_ge (a := 0) h0 (by omega))) (fun _ => ?_)
      refine k_iload f120_61 rfl ?_
      refine k_iconst (v := 8) f120_63 rfl ?_
      refine k_ic_ge f120_65 (fun _ => ?_) (fun h_ => absurd (nI_le (a := 8) (by omega) (by omega)) h_)
      refine k_iconst (v := 0) f120_78 rfl ?_
      exact k_iret f120_79 (by decide) ⟨bI_f (fun z => by have := (tk_iff.mp z).2.1; have := hw.2.1; omega), rfl⟩
  · refine k_iload f120_56 rfl ?_
    refine k_if_le f120_58 (fun _ => ?_) (fun h_ => absurd (nI_le (b := 0) (by omega) (by omega)) h_)
    refine k_iconst (v := 0) f120_78 rfl ?_
    exact k_iret f120_79 (by decide) ⟨bI_f (fun z => by have := (tk_iff.mp z).2.1; have := hw.1; omega), rfl⟩
theorem lp_isWr {x : Nat × (Nat → Int32)} {d : Nat} {I : Nat → Nat → Int32} {J : Nat → Nat → Int64} {R : Nat → Nat → Option Nat} {G : zG} {b : Nat → Nat} {n q : Nat} {w : List Nat} (hR : Rs R) (hS : Sh G) (hT : TP I b n) (hx : RX I n q) (hw : WdL w) : ∀ (f i : Nat), q + i + f = n → (∀ j, j < i → isL b n (q + j) = true) → zOk x (d + 1) 120 10 [.ref 51, .long (pW w), zU, .long (Int64.ofNat (pv (fun j => b (q + j)) (min i 8))), zU, .int (nI i)] [] (I, J, R, G) (fun v m => v = some (.int (bI (tkB b n q w = true))) ∧ m = (I, J, R, G)) := by
  have h400 := hT.1
  intro f
  induction f with
  | zero =>
    intro i hi hl
    have h : ¬ isL b n (q + i) = true := fun h => absurd (isL_lt h) (by omega)
    refine k_aload f120_10 rfl ?_
    refine k_aload f120_11 rfl ?_
    refine k_gI (w := nI q) f120_12 hS.o51 rfl hx.1 ?_
    refine k_iload f120_15 rfl ?_
    refine k_iadd f120_17 ?_
    rw [nI_add]
    refine e_v (as := [.int (nI (q + i))]) (rest := []) f120_18 hS.o51 rfl rfl rfl (s_isLetter (k := q + i) hR hS hT hx.2.2.2 (by omega)) ?_
    refine k_beq f120_21 (fun _ => ?_) (fun h_ => (absurd h_ (h)))
    exact lp_isWx hR hS hT hx hw hl (wl_at i q hl h) (by omega)
  | succ f ih =>
    intro i hi hl
    by_cases h : isL b n (q + i) = true
    · have hl2 : ∀ j, j < i + 1 → isL b n (q + j) = true := fun j hj => by
        by_cases e : j = i
        · rw [e]; exact h
        · exact hl j (by omega)
      have bl := (of_decide_eq_true h).2
      by_cases h8 : i < 8
      · refine k_aload f120_10 rfl ?_
        refine k_aload f120_11 rfl ?_
        refine k_gI (w := nI q) f120_12 hS.o51 rfl hx.1 ?_
        refine k_iload f120_15 rfl ?_
        refine k_iadd f120_17 ?_
        rw [nI_add]
        refine e_v (as := [.int (nI (q + i))]) (rest := []) f120_18 hS.o51 rfl rfl rfl (s_isLetter (k := q + i) hR hS hT hx.2.2.2 (by omega)) ?_
        refine k_beq f120_21 (fun h_ => absurd (h) h_) (fun _ => ?_)
        refine k_iload f120_24 rfl ?_
        refine k_iconst (v := 8) f120_26 rfl ?_
        refine k_ic_ge f120_28 (fun h_ => absurd h_ (nI_ge (b := 8) h8 (by omega))) (fun _ => ?_)
        refine k_lload f120_31 rfl ?_
        refine k_iconst (v := 8) f120_32 rfl ?_
        refine k_lshl f120_34 ?_
        refine k_aload f120_35 rfl ?_
        refine k_getr (q := 52) f120_36 hS.o51 rfl hR.r51_0 ?_
        refine k_aload f120_39 rfl ?_
        refine k_gI (w := nI q) f120_40 hS.o51 rfl hx.1 ?_
        refine k_iload f120_43 rfl ?_
        refine k_iadd f120_45 ?_
        rw [nI_add]
        refine k_ba (k := (q + i)) (w := sb (b (q + i))) f120_46 hS.a52 rfl (by omega) (by decide) (hT.2 (q + i) (by omega)).2.2 ?_
        refine k_i2l f120_47 ?_
        refine k_lor f120_48 ?_
        rw [show min i 8 = i by omega, sh_8 (show b (q + i) < 128 by omega)]
        refine k_lstore (L' := [.ref 51, .long (pW w), zU, .long (Int64.ofNat (pv (fun j => b (q + j)) i * 256 + b (q + i))), zU, .int (nI i)]) f120_49 rfl rfl ?_
        refine k_iinc (w := nI (i + 1)) (L' := [.ref 51, .long (pW w), zU, .long (Int64.ofNat (pv (fun j => b (q + j)) i * 256 + b (q + i))), zU, .int (nI (i + 1))]) f120_50 rfl (nI_1 i) rfl rfl ?_
        refine k_goto f120_53 ?_
        have e := ih (i + 1) (by omega) hl2
        rw [show min (i + 1) 8 = i + 1 by omega] at e
        exact e
      · refine k_aload f120_10 rfl ?_
        refine k_aload f120_11 rfl ?_
        refine k_gI (w := nI q) f120_12 hS.o51 rfl hx.1 ?_
        refine k_iload f120_15 rfl ?_
        refine k_iadd f120_17 ?_
        rw [nI_add]
        refine e_v (as := [.int (nI (q + i))]) (rest := []) f120_18 hS.o51 rfl rfl rfl (s_isLetter (k := q + i) hR hS hT hx.2.2.2 (by omega)) ?_
        refine k_beq f120_21 (fun h_ => absurd (h) h_) (fun _ => ?_)
        refine k_iload f120_24 rfl ?_
        refine k_iconst (v := 8) f120_26 rfl ?_
        refine k_ic_ge f120_28 (fun _ => ?_) (fun h_ => absurd (nI_le (a := 8) (by omega) (by omega)) h_)
        refine k_iinc (w := nI (i + 1)) (L' := [.ref 51, .long (pW w), zU, .long (Int64.ofNat (pv (fun j => b (q + j)) (min i 8))), zU, .int (nI (i + 1))]) f120_50 rfl (nI_1 i) rfl rfl ?_
        refine k_goto f120_53 ?_
        have e := ih (i + 1) (by omega) hl2
        rw [show min (i + 1) 8 = min i 8 by omega] at e
        exact e
    · refine k_aload f120_10 rfl ?_
      refine k_aload f120_11 rfl ?_
      refine k_gI (w := nI q) f120_12 hS.o51 rfl hx.1 ?_
      refine k_iload f120_15 rfl ?_
      refine k_iadd f120_17 ?_
      rw [nI_add]
      refine e_v (as := [.int (nI (q + i))]) (rest := []) f120_18 hS.o51 rfl rfl rfl (s_isLetter (k := q + i) hR hS hT hx.2.2.2 (by omega)) ?_
      refine k_beq f120_21 (fun _ => ?_) (fun h_ => (absurd h_ (h)))
      exact lp_isWx hR hS hT hx hw hl (wl_at i q hl h) (by omega)
theorem q_isW {x : Nat × (Nat → Int32)} {d : Nat} {I : Nat → Nat → Int32} {J : Nat → Nat → Int64} {R : Nat → Nat → Option Nat} {G : zG} {b : Nat → Nat} {n p : Nat} {w : List Nat} (hR : Rs R) (hS : Sh G) (hT : TP I b n) (hx : RX I n p) (hw : WdL w) : zOk x (d + 1) 120 0 [.ref 51, .long (pW w), zU, zU, zU, zU] [] (I, J, R, G) (fun v m => v = some (.int (bI (tkB b n (bk b n p) w = true))) ∧ ∃ I', m = (I', J, R, G) ∧ RX I' n (bk b n p) ∧ LX I I') := by
  refine k_aload f120_0 rfl ?_
  refine k_callv (as := []) (rest := []) f120_1 hS.o51 rfl rfl rfl rfl (q_see (p := p) hR hS hT hx) ?_
  rintro _ _ ⟨rfl, I1, rfl, hx1, hl1⟩
  have hT1 := hl1.tp hT
  refine k_popi f120_4 ?_
  refine k_lconst (v := 0) f120_5 rfl ?_
  refine k_lstore (L' := [.ref 51, .long (pW w), zU, .long (0), zU, zU]) f120_6 rfl rfl ?_
  refine k_iconst (v := 0) f120_7 rfl ?_
  refine k_istore (L' := [.ref 51, .long (pW w), zU, .long (0), zU, .int (0)]) f120_8 rfl rfl ?_
  refine zOk.imp (lp_isWr hR hS hT1 hx1 hw (n - bk b n p) 0 (by have := hx1.2.1; omega) (fun j hj => absurd hj (Nat.not_lt_zero _))) ?_
  rintro _ _ ⟨rfl, rfl⟩
  exact ⟨rfl, I1, rfl, hx1, hl1⟩
