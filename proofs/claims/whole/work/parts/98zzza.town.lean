/-! A TOWN, told: pure; and a number in the class. -/
def bdS {α β : Type} (a : Sum Nat α) (f : α → Sum Nat β) : Sum Nat β := match a with
  | .inl e => .inl e
  | .inr z => f z
theorem bdS_l {α β : Type} {a : Sum Nat α} {f : α → Sum Nat β} {e : Nat} (h : a = .inl e) : bdS a f = .inl e := by rw [h]; rfl
theorem bdS_r {α β : Type} {a : Sum Nat α} {f : α → Sum Nat β} {z : α} (h : a = .inr z) : bdS a f = f z := by rw [h]; rfl
/-- PEOPLE, YEAR, COINS, MEETINGS, clauses -/
abbrev TS : Type := Nat × Nat × (Nat × (Nat → Nat × Nat × Nat)) × (Nat × (Nat → Nat × Nat × Nat)) × Nat
def upF (f : Nat → Nat × Nat × Nat) (k : Nat) (v : Nat × Nat × Nat) : Nat → Nat × Nat × Nat := fun j => if j = k then v else f j
def tmB (s : TS) (k : Nat) : Bool := decide (40 ≤ s.2.2.2.2 ∨ (k = 1 ∧ 0 < s.1) ∨ (k ≠ 1 ∧ s.1 = 0) ∨ (k = 2 ∧ 0 < s.2.1) ∨ (k = 3 ∧ 8 ≤ s.2.2.1.1) ∨ (k = 4 ∧ 24 ≤ s.2.2.2.1.1))
def bdT (b : Nat → Nat) (n k : Nat) (s : TS) (p : Nat) : Sum Nat (TS × Nat) :=
  if k = 1 then bdS (nmQ b n 2 10 (bk b n p)) fun z => .inr ((z.1, s.2.1, s.2.2.1, s.2.2.2.1, s.2.2.2.2 + 1), z.2)
  else if k = 2 then bdS (nmQ b n 1 999 (bk b n p)) fun z => .inr ((s.1, z.1, s.2.2.1, s.2.2.2.1, s.2.2.2.2 + 1), z.2)
  else if k = 3 then bdS (nmQ b n 1 99 (bk b n p)) fun z1 => bdS (nmQ b n 0 (s.1 - 1) (bk b n z1.2)) fun z2 => bdS (nmQ b n 0 999 (bk b n z2.2)) fun z3 =>
    .inr ((s.1, s.2.1, (s.2.2.1.1 + 1, upF s.2.2.1.2 s.2.2.1.1 (z1.1, z2.1, z3.1)), s.2.2.2.1, s.2.2.2.2 + 1), z3.2)
  else bdS (nmQ b n 0 1999 (bk b n p)) fun z1 => bdS (nmQ b n 0 (s.1 - 1) (bk b n z1.2)) fun z2 => bdS (nmQ b n 0 (s.1 - 1) (bk b n z2.2)) fun z3 =>
    if z3.1 = z2.1 then .inl (1 + 8 * bk b n z2.2 + 1) else .inr ((s.1, s.2.1, s.2.2.1, (s.2.2.2.1.1 + 1, upF s.2.2.2.1.2 s.2.2.2.1.1 (z1.1, z2.1, z3.1)), s.2.2.2.2 + 1), z3.2)
def clT (b : Nat → Nat) (n : Nat) (s : TS) (q : Nat) : Sum Nat (TS × Nat) :=
  if whT b n 5 (.inr q) = 0 then .inl (1 + 8 * q) else if tmB s (whT b n 5 (.inr q)) = true then .inl (1 + 8 * q + 4) else bdT b n (whT b n 5 (.inr q)) s (wl b n q)
/-- what a good TOWN is so far -/
def tsO (s : TS) : Prop := (s.1 = 0 ↔ s.2.2.2.2 = 0) ∧ s.1 ≤ 10 ∧ s.2.1 ≤ 999 ∧ s.2.2.1.1 ≤ 8 ∧ s.2.2.2.1.1 ≤ 24 ∧ s.2.2.2.2 ≤ 40 ∧
  (∀ i, i < s.2.2.1.1 → 1 ≤ (s.2.2.1.2 i).1 ∧ (s.2.2.1.2 i).1 ≤ 99 ∧ (s.2.2.1.2 i).2.1 < s.1 ∧ (s.2.2.1.2 i).2.2 ≤ 999) ∧
  (∀ i, i < s.2.2.2.1.1 → (s.2.2.2.1.2 i).1 ≤ 1999 ∧ (s.2.2.2.1.2 i).2.1 < s.1 ∧ (s.2.2.2.1.2 i).2.2 < s.1 ∧ (s.2.2.2.1.2 i).2.1 ≠ (s.2.2.2.1.2 i).2.2) ∧ (s.1 = 0 → s.2.2.1.1 = 0 ∧ s.2.2.2.1.1 = 0) ∧ (s.1 = 0 ∨ 2 ≤ s.1)
theorem nmq_ok {b : Nat → Nat} {n lo hi q v p : Nat} (hq : q ≤ n) (h : nmQ b n lo hi q = .inr (v, p)) : lo ≤ v ∧ v ≤ hi ∧ p ≤ n ∧ q < p := by
  unfold nmQ at h
  by_cases hD : isD b n q = true
  · rw [if_pos hD] at h
    by_cases hg : dg b n q - q ≤ 5 ∧ lo ≤ vN b n q ∧ vN b n q ≤ hi
    · rw [if_pos hg] at h
      cases h
      exact ⟨hg.2.1, hg.2.2, (dg_le hq).2, dg_lt hD⟩
    · rw [if_neg hg] at h
      cases h
  · rw [if_neg hD] at h
    cases h
theorem nmq_e {b : Nat → Nat} {n lo hi q e : Nat} (h : nmQ b n lo hi q = .inl e) : 0 < e ∧ e ≤ 2 + 8 * q := by
  unfold nmQ at h
  by_cases hD : isD b n q = true
  · rw [if_pos hD] at h
    by_cases hg : dg b n q - q ≤ 5 ∧ lo ≤ vN b n q ∧ vN b n q ≤ hi
    · rw [if_pos hg] at h
      cases h
    · rw [if_neg hg] at h
      cases h
      omega
  · rw [if_neg hD] at h
    cases h
    omega
theorem isD_L {b : Nat → Nat} {n q : Nat} (h : isD b n q = true) : ¬ isL b n q = true := fun z => by
  have a := (of_decide_eq_true h).2
  have c := (of_decide_eq_true z).2
  omega
theorem kd_2 {b : Nat → Nat} {n q : Nat} : kd b n q = 2 ↔ isD b n q = true := by
  unfold kd
  by_cases hD : isD b n q = true
  · rw [if_neg (isD_L hD), if_pos hD]; exact ⟨fun _ => hD, fun _ => rfl⟩
  · refine ⟨fun z => ?_, fun z => absurd z hD⟩
    rw [if_neg hD] at z
    split at z
    · cases z
    · split at z <;> cases z
def rdN (b : Nat → Nat) (n lo hi : Nat) (no : Int32) : Sum Nat Nat → Int32 × Sum Nat Nat
  | .inl e => (0, .inl e)
  | .inr q => match nmQ b n lo hi q with
    | .inl e => (0, .inl e)
    | .inr z => if nI z.1 = no then (0, .inl (1 + 8 * q + 1)) else (nI z.1, .inr (bk b n z.2))
theorem rdN_l {b : Nat → Nat} {n lo hi q e : Nat} {no : Int32} (h : nmQ b n lo hi q = .inl e) : rdN b n lo hi no (.inr q) = (0, .inl e) := by
  show (match nmQ b n lo hi q with
    | .inl e => ((0 : Int32), (Sum.inl e : Sum Nat Nat))
    | .inr z => if nI z.1 = no then (0, .inl (1 + 8 * q + 1)) else (nI z.1, .inr (bk b n z.2))) = _
  rw [h]
theorem rdN_r {b : Nat → Nat} {n lo hi q : Nat} {z : Nat × Nat} {no : Int32} (h : nmQ b n lo hi q = .inr z) : rdN b n lo hi no (.inr q) = if nI z.1 = no then (0, .inl (1 + 8 * q + 1)) else (nI z.1, .inr (bk b n z.2)) := by
  show (match nmQ b n lo hi q with
    | .inl e => ((0 : Int32), (Sum.inl e : Sum Nat Nat))
    | .inr z => if nI z.1 = no then (0, .inl (1 + 8 * q + 1)) else (nI z.1, .inr (bk b n z.2))) = _
  rw [h]
theorem q_rdN {x : Nat × (Nat → Int32)} {d : Nat} {I : Nat → Nat → Int32} {J : Nat → Nat → Int64} {R : Nat → Nat → Option Nat} {G : zG} {b : Nat → Nat} {n lo hi : Nat} {no : Int32} {t : Sum Nat Nat} (hR : Rs R) (hS : Sh G) (hT : TP I b n) (ht : CX I b n t) (hlo : lo < 100000) (hhi : hi < 100000) : zOk x (d + 1) 61 0 [.ref 11, .int (nI lo), .int (nI hi), .int no, zU] [] (I, J, R, G) (fun v m => v = some (.int (rdN b n lo hi no t).1) ∧ ∃ I', m = (I', J, R, G) ∧ CX I' b n (rdN b n lo hi no t).2 ∧ F9 I I') := by
  have h400 := hT.1
  cases t with
  | inl e =>
    refine k_aload f61_0 rfl ?_
    refine k_getr (q := 9) f61_1 hS.o11 rfl hR.r11_0 ?_
    refine e_v (as := []) (rest := []) f61_4 hS.o9 rfl rfl rfl (s_isNumber hS ht) ?_
    refine k_bne f61_7 (fun h_ => absurd h_ ((fun h => by cases h))) (fun _ => ?_)
    refine k_aload f61_10 rfl ?_
    refine k_getr (q := 9) f61_11 hS.o11 rfl hR.r11_0 ?_
    refine k_iconst (v := 0) f61_14 rfl ?_
    refine k_callv (as := [.int (0)]) (rest := []) f61_15 hS.o9 rfl rfl rfl rfl (q_fail (b := b) (n := n) (w := 0) hS hT.1 (by omega) ht) ?_
    rintro _ _ ⟨rfl, I1, rfl, ht1, hf1⟩
    refine k_iconst (v := 0) f61_18 rfl ?_
    exact k_iret f61_19 rfl ⟨rfl, I1, rfl, ht1, hf1⟩
  | inr q =>
    have hq := ht.2.2.2.2.2.2.2
    by_cases hD : isD b n q = true
    · have hN : nmQ b n lo hi q = if dg b n q - q ≤ 5 ∧ lo ≤ vN b n q ∧ vN b n q ≤ hi then .inr (vN b n q, dg b n q) else .inl (1 + 8 * q + 1) := if_pos hD
      have ee : ed b n q = dg b n q := (if_neg (isD_L hD)).trans (if_pos hD)
      have hd := dg_le (b := b) hq
      by_cases h5 : dg b n q - q ≤ 5
      · have v5 := vN_lt (b := b) hq h5
        have en : I 9 6 = nI (vN b n q) := (ht.2.2.2.2.1 (kd_2.mpr hD)).trans (if_pos h5)
        by_cases h1 : vN b n q < lo
        · refine k_aload f61_0 rfl ?_
          refine k_getr (q := 9) f61_1 hS.o11 rfl hR.r11_0 ?_
          refine e_v (as := []) (rest := []) f61_4 hS.o9 rfl rfl rfl (s_isNumber hS ht) ?_
          refine k_bne f61_7 (fun _ => ?_) (fun h_ => absurd ((decide_eq_true (kd_2.mpr hD))) h_)
          refine k_aload f61_20 rfl ?_
          refine k_getr (q := 9) f61_21 hS.o11 rfl hR.r11_0 ?_
          refine k_gI (w := nI (vN b n q)) f61_24 hS.o9 rfl en ?_
          refine k_istore (L' := [.ref 11, .int (nI lo), .int (nI hi), .int (no), .int (nI (vN b n q))]) f61_27 rfl rfl ?_
          refine k_iload f61_29 rfl ?_
          refine k_iload f61_31 rfl ?_
          refine k_ic_lt f61_32 (fun _ => ?_) (fun h_ => absurd ((nI_ltI (by omega) (by omega)).mpr h1) h_)
          refine k_aload f61_47 rfl ?_
          refine k_getr (q := 9) f61_48 hS.o11 rfl hR.r11_0 ?_
          refine k_iconst (v := 1) f61_51 rfl ?_
          refine k_callv (as := [.int (1)]) (rest := []) f61_52 hS.o9 rfl rfl rfl rfl (q_fail (b := b) (n := n) (w := 1) hS hT.1 (by omega) ht) ?_
          rintro _ _ ⟨rfl, I1, rfl, ht1, hf1⟩
          refine k_iconst (v := 0) f61_55 rfl ?_
          exact k_iret f61_56 rfl ⟨by rw [rdN_l (hN.trans (if_neg (fun z => by omega)))], I1, rfl, by rw [rdN_l (hN.trans (if_neg (fun z => by omega)))]; exact ht1, hf1⟩
        · by_cases h2 : hi < vN b n q
          · refine k_aload f61_0 rfl ?_
            refine k_getr (q := 9) f61_1 hS.o11 rfl hR.r11_0 ?_
            refine e_v (as := []) (rest := []) f61_4 hS.o9 rfl rfl rfl (s_isNumber hS ht) ?_
            refine k_bne f61_7 (fun _ => ?_) (fun h_ => absurd ((decide_eq_true (kd_2.mpr hD))) h_)
            refine k_aload f61_20 rfl ?_
            refine k_getr (q := 9) f61_21 hS.o11 rfl hR.r11_0 ?_
            refine k_gI (w := nI (vN b n q)) f61_24 hS.o9 rfl en ?_
            refine k_istore (L' := [.ref 11, .int (nI lo), .int (nI hi), .int (no), .int (nI (vN b n q))]) f61_27 rfl rfl ?_
            refine k_iload f61_29 rfl ?_
            refine k_iload f61_31 rfl ?_
            refine k_ic_lt f61_32 (fun h_ => absurd h_ ((fun z => h1 ((nI_ltI (by omega) (by omega)).mp z)))) (fun _ => ?_)
            refine k_iload f61_35 rfl ?_
            refine k_iload f61_37 rfl ?_
            refine k_ic_gt f61_38 (fun _ => ?_) (fun h_ => absurd ((nI_ltI (by omega) (by omega)).mpr h2) h_)
            refine k_aload f61_47 rfl ?_
            refine k_getr (q := 9) f61_48 hS.o11 rfl hR.r11_0 ?_
            refine k_iconst (v := 1) f61_51 rfl ?_
            refine k_callv (as := [.int (1)]) (rest := []) f61_52 hS.o9 rfl rfl rfl rfl (q_fail (b := b) (n := n) (w := 1) hS hT.1 (by omega) ht) ?_
            rintro _ _ ⟨rfl, I1, rfl, ht1, hf1⟩
            refine k_iconst (v := 0) f61_55 rfl ?_
            exact k_iret f61_56 rfl ⟨by rw [rdN_l (hN.trans (if_neg (fun z => by omega)))], I1, rfl, by rw [rdN_l (hN.trans (if_neg (fun z => by omega)))]; exact ht1, hf1⟩
          · have hR2 := rdN_r (no := no) (hN.trans (if_pos ⟨h5, by omega, by omega⟩))
            by_cases h3 : nI (vN b n q) = no
            · refine k_aload f61_0 rfl ?_
              refine k_getr (q := 9) f61_1 hS.o11 rfl hR.r11_0 ?_
              refine e_v (as := []) (rest := []) f61_4 hS.o9 rfl rfl rfl (s_isNumber hS ht) ?_
              refine k_bne f61_7 (fun _ => ?_) (fun h_ => absurd ((decide_eq_true (kd_2.mpr hD))) h_)
              refine k_aload f61_20 rfl ?_
              refine k_getr (q := 9) f61_21 hS.o11 rfl hR.r11_0 ?_
              refine k_gI (w := nI (vN b n q)) f61_24 hS.o9 rfl en ?_
              refine k_istore (L' := [.ref 11, .int (nI lo), .int (nI hi), .int (no), .int (nI (vN b n q))]) f61_27 rfl rfl ?_
              refine k_iload f61_29 rfl ?_
              refine k_iload f61_31 rfl ?_
              refine k_ic_lt f61_32 (fun h_ => absurd h_ ((fun z => h1 ((nI_ltI (by omega) (by omega)).mp z)))) (fun _ => ?_)
              refine k_iload f61_35 rfl ?_
              refine k_iload f61_37 rfl ?_
              refine k_ic_gt f61_38 (fun h_ => absurd h_ ((fun z => h2 ((nI_ltI (by omega) (by omega)).mp z)))) (fun _ => ?_)
              refine k_iload f61_41 rfl ?_
              refine k_iload f61_43 rfl ?_
              refine k_ic_ne f61_44 (fun h_ => absurd (h3) h_) (fun _ => ?_)
              refine k_aload f61_47 rfl ?_
              refine k_getr (q := 9) f61_48 hS.o11 rfl hR.r11_0 ?_
              refine k_iconst (v := 1) f61_51 rfl ?_
              refine k_callv (as := [.int (1)]) (rest := []) f61_52 hS.o9 rfl rfl rfl rfl (q_fail (b := b) (n := n) (w := 1) hS hT.1 (by omega) ht) ?_
              rintro _ _ ⟨rfl, I1, rfl, ht1, hf1⟩
              refine k_iconst (v := 0) f61_55 rfl ?_
              exact k_iret f61_56 rfl ⟨by rw [hR2, if_pos h3], I1, rfl, by rw [hR2, if_pos h3]; exact ht1, hf1⟩
            · refine k_aload f61_0 rfl ?_
              refine k_getr (q := 9) f61_1 hS.o11 rfl hR.r11_0 ?_
              refine e_v (as := []) (rest := []) f61_4 hS.o9 rfl rfl rfl (s_isNumber hS ht) ?_
              refine k_bne f61_7 (fun _ => ?_) (fun h_ => absurd ((decide_eq_true (kd_2.mpr hD))) h_)
              refine k_aload f61_20 rfl ?_
              refine k_getr (q := 9) f61_21 hS.o11 rfl hR.r11_0 ?_
              refine k_gI (w := nI (vN b n q)) f61_24 hS.o9 rfl en ?_
              refine k_istore (L' := [.ref 11, .int (nI lo), .int (nI hi), .int (no), .int (nI (vN b n q))]) f61_27 rfl rfl ?_
              refine k_iload f61_29 rfl ?_
              refine k_iload f61_31 rfl ?_
              refine k_ic_lt f61_32 (fun h_ => absurd h_ ((fun z => h1 ((nI_ltI (by omega) (by omega)).mp z)))) (fun _ => ?_)
              refine k_iload f61_35 rfl ?_
              refine k_iload f61_37 rfl ?_
              refine k_ic_gt f61_38 (fun h_ => absurd h_ ((fun z => h2 ((nI_ltI (by omega) (by omega)).mp z)))) (fun _ => ?_)
              refine k_iload f61_41 rfl ?_
              refine k_iload f61_43 rfl ?_
              refine k_ic_ne f61_44 (fun _ => ?_) (fun h_ => absurd (h3) h_)
              refine k_aload f61_57 rfl ?_
              refine k_getr (q := 9) f61_58 hS.o11 rfl hR.r11_0 ?_
              refine k_callv (as := []) (rest := []) f61_61 hS.o9 rfl rfl rfl rfl (q_next hR hS hT ht) ?_
              rintro _ _ ⟨rfl, I1, rfl, ht1, hf1⟩
              refine k_iload f61_64 rfl ?_
              exact k_iret f61_66 rfl ⟨by rw [hR2, if_neg h3], I1, rfl, by rw [hR2, if_neg h3]; rw [show nxT b n (.inr q) = .inr (bk b n (dg b n q)) from by rw [← ee]; rfl] at ht1; exact ht1, hf1⟩
      · have en : I 9 6 = -1 := (ht.2.2.2.2.1 (kd_2.mpr hD)).trans (if_neg h5)
        have hlt : (-1 : Int32) < nI lo := Int32.lt_of_lt_of_le (show (-1 : Int32) < nI 0 from by decide) (nI_le (by omega) (by omega))
        refine k_aload f61_0 rfl ?_
        refine k_getr (q := 9) f61_1 hS.o11 rfl hR.r11_0 ?_
        refine e_v (as := []) (rest := []) f61_4 hS.o9 rfl rfl rfl (s_isNumber hS ht) ?_
        refine k_bne f61_7 (fun _ => ?_) (fun h_ => absurd ((decide_eq_true (kd_2.mpr hD))) h_)
        refine k_aload f61_20 rfl ?_
        refine k_getr (q := 9) f61_21 hS.o11 rfl hR.r11_0 ?_
        refine k_gI (w := (-1)) f61_24 hS.o9 rfl en ?_
        refine k_istore (L' := [.ref 11, .int (nI lo), .int (nI hi), .int (no), .int ((-1))]) f61_27 rfl rfl ?_
        refine k_iload f61_29 rfl ?_
        refine k_iload f61_31 rfl ?_
        refine k_ic_lt f61_32 (fun _ => ?_) (fun h_ => absurd (hlt) h_)
        refine k_aload f61_47 rfl ?_
        refine k_getr (q := 9) f61_48 hS.o11 rfl hR.r11_0 ?_
        refine k_iconst (v := 1) f61_51 rfl ?_
        refine k_callv (as := [.int (1)]) (rest := []) f61_52 hS.o9 rfl rfl rfl rfl (q_fail (b := b) (n := n) (w := 1) hS hT.1 (by omega) ht) ?_
        rintro _ _ ⟨rfl, I1, rfl, ht1, hf1⟩
        refine k_iconst (v := 0) f61_55 rfl ?_
        exact k_iret f61_56 rfl ⟨by rw [rdN_l (hN.trans (if_neg (fun z => h5 z.1)))], I1, rfl, by rw [rdN_l (hN.trans (if_neg (fun z => h5 z.1)))]; exact ht1, hf1⟩
    · refine k_aload f61_0 rfl ?_
      refine k_getr (q := 9) f61_1 hS.o11 rfl hR.r11_0 ?_
      refine e_v (as := []) (rest := []) f61_4 hS.o9 rfl rfl rfl (s_isNumber hS ht) ?_
      refine k_bne f61_7 (fun h_ => absurd h_ ((fun z => hD (kd_2.mp (of_decide_eq_true z))))) (fun _ => ?_)
      refine k_aload f61_10 rfl ?_
      refine k_getr (q := 9) f61_11 hS.o11 rfl hR.r11_0 ?_
      refine k_iconst (v := 0) f61_14 rfl ?_
      refine k_callv (as := [.int (0)]) (rest := []) f61_15 hS.o9 rfl rfl rfl rfl (q_fail (b := b) (n := n) (w := 0) hS hT.1 (by omega) ht) ?_
      rintro _ _ ⟨rfl, I1, rfl, ht1, hf1⟩
      refine k_iconst (v := 0) f61_18 rfl ?_
      exact k_iret f61_19 rfl ⟨by rw [rdN_l (if_neg hD)], I1, rfl, by rw [rdN_l (if_neg hD)]; exact ht1, hf1⟩
