/-! THE PAIR feed. -/
theorem by_255 : ∀ i, (h : i < 8) → (255#8)[i] = true := by decide
theorem by_t24 (v : Int32) : (v >>> ((24 : Int32) &&& 31)).toInt8 = ((v.toUInt32 >>> ((24 : Int32).toUInt32 &&& Int32.toUInt32 31)).toInt32 &&& 255).toInt8 := by
  apply Int8.toBitVec_inj.mp
  apply BitVec.eq_of_getLsbD_eq
  intro i hi
  have e1 : ((24 : Int32) &&& 31).toBitVec.smod 32 = 24#32 := by decide
  have e2 : ((24 : Int32).toUInt32 &&& Int32.toUInt32 31).toBitVec % 32 = 24#32 := by decide
  have e3 : (255 : Int32).toBitVec = BitVec.ofNat 32 (2 ^ 8 - 1) := by decide
  simp only [Int32.toBitVec_toInt8, Int32.toBitVec_shiftRight, Int32.toBitVec_and, e1, e3]
  simp [BitVec.getLsbD_setWidth, hi, BitVec.getLsbD_sshiftRight, e2, by_255 i hi, BitVec.getElem_signExtend, BitVec.getElem_sshiftRight, show i < 32 by omega, show 24 + i < 32 by omega]
theorem by_t16 (v : Int32) : (v >>> ((16 : Int32) &&& 31)).toInt8 = ((v.toUInt32 >>> ((16 : Int32).toUInt32 &&& Int32.toUInt32 31)).toInt32 &&& 255).toInt8 := by
  apply Int8.toBitVec_inj.mp
  apply BitVec.eq_of_getLsbD_eq
  intro i hi
  have e1 : ((16 : Int32) &&& 31).toBitVec.smod 32 = 16#32 := by decide
  have e2 : ((16 : Int32).toUInt32 &&& Int32.toUInt32 31).toBitVec % 32 = 16#32 := by decide
  have e3 : (255 : Int32).toBitVec = BitVec.ofNat 32 (2 ^ 8 - 1) := by decide
  simp only [Int32.toBitVec_toInt8, Int32.toBitVec_shiftRight, Int32.toBitVec_and, e1, e3]
  simp [BitVec.getLsbD_setWidth, hi, BitVec.getLsbD_sshiftRight, e2, by_255 i hi, BitVec.getElem_signExtend, BitVec.getElem_sshiftRight, show i < 32 by omega, show 16 + i < 32 by omega]
theorem by_t8 (v : Int32) : (v >>> ((8 : Int32) &&& 31)).toInt8 = ((v.toUInt32 >>> ((8 : Int32).toUInt32 &&& Int32.toUInt32 31)).toInt32 &&& 255).toInt8 := by
  apply Int8.toBitVec_inj.mp
  apply BitVec.eq_of_getLsbD_eq
  intro i hi
  have e1 : ((8 : Int32) &&& 31).toBitVec.smod 32 = 8#32 := by decide
  have e2 : ((8 : Int32).toUInt32 &&& Int32.toUInt32 31).toBitVec % 32 = 8#32 := by decide
  have e3 : (255 : Int32).toBitVec = BitVec.ofNat 32 (2 ^ 8 - 1) := by decide
  simp only [Int32.toBitVec_toInt8, Int32.toBitVec_shiftRight, Int32.toBitVec_and, e1, e3]
  simp [BitVec.getLsbD_setWidth, hi, BitVec.getLsbD_sshiftRight, e2, by_255 i hi, BitVec.getElem_signExtend, BitVec.getElem_sshiftRight, show i < 32 by omega, show 8 + i < 32 by omega]
theorem by_t0 (v : Int32) : (v >>> ((0 : Int32) &&& 31)).toInt8 = ((v.toUInt32 >>> ((0 : Int32).toUInt32 &&& Int32.toUInt32 31)).toInt32 &&& 255).toInt8 := by
  apply Int8.toBitVec_inj.mp
  apply BitVec.eq_of_getLsbD_eq
  intro i hi
  have e1 : ((0 : Int32) &&& 31).toBitVec.smod 32 = 0#32 := by decide
  have e2 : ((0 : Int32).toUInt32 &&& Int32.toUInt32 31).toBitVec % 32 = 0#32 := by decide
  have e3 : (255 : Int32).toBitVec = BitVec.ofNat 32 (2 ^ 8 - 1) := by decide
  simp only [Int32.toBitVec_toInt8, Int32.toBitVec_shiftRight, Int32.toBitVec_and, e1, e3]
  simp [BitVec.getLsbD_setWidth, hi, BitVec.getLsbD_sshiftRight, e2, by_255 i hi, BitVec.getElem_signExtend, BitVec.getElem_sshiftRight, show i < 32 by omega, show 0 + i < 32 by omega]
theorem by_c : ∀ b, b < 256 → ((nI b).toUInt32 % 65536).toInt32 = nI b := by decide +kernel
def cb (v s : Int32) : Int32 := (((((v).toUInt32 >>> ((s).toUInt32 &&& Int32.toUInt32 31)).toInt32) &&& (255)).toUInt32 % 65536).toInt32
def bb (v s : Int32) : Int32 := ((v) >>> ((s) &&& 31)).toInt8.toInt32
theorem cb_1 (v s : Int32) : ∃ b, b < 256 ∧ cb v s = nI b ∧ (((v.toUInt32 >>> (s.toUInt32 &&& Int32.toUInt32 31)).toInt32) &&& 255) = nI b := by
  obtain ⟨b, hb, e⟩ := pk_andE ((v.toUInt32 >>> (s.toUInt32 &&& Int32.toUInt32 31)).toInt32) (m := 255) 8 (by decide)
  exact ⟨b, hb, by rw [cb, e, by_c b hb], e⟩
def bys (b c : Int32) : Prop := Rg b 256 ∧ c = b.toInt8.toInt32
theorem by_s {v s : Int32} (h : (v >>> (s &&& 31)).toInt8 = ((v.toUInt32 >>> (s.toUInt32 &&& Int32.toUInt32 31)).toInt32 &&& 255).toInt8) : bys (cb v s) (bb v s) := by
  obtain ⟨b, hb, e, e2⟩ := cb_1 v s
  refine ⟨by rw [e]; exact Rg.of hb (by omega), ?_⟩
  rw [bb, h, e2, e]
def cbL (v : Int32) : List Int32 := [cb v 24, cb v 16, cb v 8, cb v 0]
def bbL (v : Int32) : List Int32 := [bb v 24, bb v 16, bb v 8, bb v 0]
def rowL : (Nat → Int32) → Nat → List Int32 → Nat → Int32
  | f, _, [] => f
  | f, n, b :: l => rowL (fu f n b) (n + 1) l
def adL (p q : Nat) : (Nat → Nat → Int32) → Nat → List Int32 → Nat → Nat → Int32
  | I, _, [] => I
  | I, n, b :: l => adL p q (z_u (z_u I p n b) q 1 (nI (n + 1))) (n + 1) l
theorem adL_app (p q : Nat) : ∀ (l1 l2 : List Int32) (I : Nat → Nat → Int32) (n : Nat), adL p q (adL p q I n l1) (n + l1.length) l2 = adL p q I n (l1 ++ l2) := by
  intro l1
  induction l1 with
  | nil => intro l2 I n; rfl
  | cons b l ih =>
    intro l2 I n
    show adL p q (adL p q _ (n + 1) l) (n + (l.length + 1)) l2 = adL p q _ (n + 1) (l ++ l2)
    rw [show n + (l.length + 1) = n + 1 + l.length by omega]
    exact ih l2 _ _
theorem adL_row {p q : Nat} (h : p ≠ q) : ∀ (l : List Int32) (I : Nat → Nat → Int32) (n : Nat), adL p q I n l p = rowL (I p) n l := by
  intro l
  induction l with
  | nil => intro I n; rfl
  | cons b l ih =>
    intro I n
    show adL p q _ (n + 1) l p = rowL (fu (I p) n b) (n + 1) l
    rw [ih, z_u_row' _ _ _ h, z_u_row]
theorem adL_cnt {p q : Nat} : ∀ (l : List Int32) (I : Nat → Nat → Int32) (n : Nat), I q 1 = nI n → adL p q I n l q 1 = nI (n + l.length) := by
  intro l
  induction l with
  | nil => intro I n h; exact h
  | cons b l ih =>
    intro I n h
    show adL p q _ (n + 1) l q 1 = nI (n + (l.length + 1))
    rw [ih _ _ (z_u_same _ _ _ _), show n + 1 + l.length = n + (l.length + 1) by omega]
theorem adL_o {p q r k : Nat} (hp : r ≠ p) (hq : ¬ (r = q ∧ k = 1)) : ∀ (l : List Int32) (I : Nat → Nat → Int32) (n : Nat), adL p q I n l r k = I r k := by
  intro l
  induction l with
  | nil => intro I n; rfl
  | cons b l ih =>
    intro I n
    show adL p q _ (n + 1) l r k = I r k
    rw [ih, z_u_no _ _ hq, z_u_p _ _ _ _ hp]
def L2 : List Int32 → List Int32 → Prop
  | [], [] => True
  | b :: l, c :: l' => bys b c ∧ L2 l l'
  | _, _ => False
theorem L2.app : ∀ {a b c d : List Int32}, L2 a b → L2 c d → L2 (a ++ c) (b ++ d)
  | [], [], _, _, _, h => h
  | _ :: _, _ :: _, _, _, h1, h2 => ⟨h1.1, L2.app h1.2 h2⟩
theorem L2_4 (v : Int32) : L2 (cbL v) (bbL v) := ⟨by_s (by_t24 v), by_s (by_t16 v), by_s (by_t8 v), by_s (by_t0 v), trivial⟩
theorem row_ok : ∀ {l l' : List Int32} {f g : Nat → Int32} {n : Nat}, L2 l l' → (∀ k, k < 400 → bys (f k) (g k)) → ∀ k, k < 400 → bys (rowL f n l k) (rowL g n l' k)
  | [], [], _, _, _, _, h => h
  | b :: l, c :: l', f, g, n, h2, h => row_ok (l := l) (l' := l') (f := fu f n b) (g := fu g n c) (n := n + 1) h2.2 (fun k hk => by
      by_cases q : k = n
      · subst q
        rw [fu_same, fu_same]
        exact h2.1
      · rw [fu_no _ _ q, fu_no _ _ q]
        exact h k hk)
theorem s_add {x : Nat × (Nat → Int32)} {d : Nat} {I : Nat → Nat → Int32} {J : Nat → Nat → Int64} {R : Nat → Nat → Option Nat} {G : zG} {v : Int32} {n : Nat} (hR : Rs R) (hS : Sh G) (hq : I 9 1 = nI n) (hn : n + 4 ≤ 400) : zRn x d 47 [.ref 9, .int (v)] (I, J, R, G) (none) (adL 10 9 I n (cbL v), J, R, G) := by
  show zOk x d 47 0 [.ref 9, .int (v), zU] [] _ _
  refine k_iconst (v := 24) f47_0 rfl ?_
  refine k_istore (L' := [.ref 9, .int (v), .int (24)]) f47_2 rfl rfl ?_
  refine k_iload f47_3 rfl ?_
  refine k_if_lt f47_4 (fun h_ => absurd h_ (by decide)) (fun _ => ?_)
  refine k_aload f47_7 rfl ?_
  refine k_gI (w := nI n) f47_8 hS.o9 rfl hq ?_
  refine k_aload f47_11 rfl ?_
  refine k_getr (q := 10) f47_12 hS.o9 rfl hR.r9_0 ?_
  refine k_alen (v := nI 400) f47_15 hS.a10 rfl rfl ?_
  refine k_ic_ge f47_16 (fun h_ => absurd h_ (nI_ge (by omega) (by omega))) (fun _ => ?_)
  refine k_aload f47_19 rfl ?_
  refine k_getr (q := 10) f47_20 hS.o9 rfl hR.r9_0 ?_
  refine k_aload f47_23 rfl ?_
  refine k_gI (w := nI n) f47_24 hS.o9 rfl hq ?_
  refine k_iload f47_27 rfl ?_
  refine k_iload f47_28 rfl ?_
  refine k_iushr f47_29 ?_
  refine k_iconst (v := 255) f47_30 rfl ?_
  refine k_iand f47_33 ?_
  refine k_i2c f47_34 ?_
  refine k_cast (k := n) (w := cb v 24) f47_35 hS.a10 (vp_in_nI (by omega) (by decide)) (nI_clamp (by omega)) (pk_vc _) ?_
  refine k_aload f47_36 rfl ?_
  refine k_dup f47_37 ?_
  refine k_gI (w := nI n) f47_38 hS.o9 rfl (Eq.trans (z_u_p _ _ _ _ (by decide)) hq) ?_
  refine k_iconst (v := 1) f47_41 rfl ?_
  refine k_iadd f47_42 ?_
  rw [nI_1]
  refine k_putI f47_43 hS.o9 rfl ?_
  refine k_iinc (w := 16) (L' := [.ref 9, .int (v), .int (16)]) f47_46 rfl (by decide) rfl rfl ?_
  refine k_goto f47_49 ?_
  refine k_iload f47_3 rfl ?_
  refine k_if_lt f47_4 (fun h_ => absurd h_ (by decide)) (fun _ => ?_)
  refine k_aload f47_7 rfl ?_
  refine k_gI (w := nI (n + 1)) f47_8 hS.o9 rfl (z_u_same _ _ _ _) ?_
  refine k_aload f47_11 rfl ?_
  refine k_getr (q := 10) f47_12 hS.o9 rfl hR.r9_0 ?_
  refine k_alen (v := nI 400) f47_15 hS.a10 rfl rfl ?_
  refine k_ic_ge f47_16 (fun h_ => absurd h_ (nI_ge (by omega) (by omega))) (fun _ => ?_)
  refine k_aload f47_19 rfl ?_
  refine k_getr (q := 10) f47_20 hS.o9 rfl hR.r9_0 ?_
  refine k_aload f47_23 rfl ?_
  refine k_gI (w := nI (n + 1)) f47_24 hS.o9 rfl (z_u_same _ _ _ _) ?_
  refine k_iload f47_27 rfl ?_
  refine k_iload f47_28 rfl ?_
  refine k_iushr f47_29 ?_
  refine k_iconst (v := 255) f47_30 rfl ?_
  refine k_iand f47_33 ?_
  refine k_i2c f47_34 ?_
  refine k_cast (k := (n + 1)) (w := cb v 16) f47_35 hS.a10 (vp_in_nI (by omega) (by decide)) (nI_clamp (by omega)) (pk_vc _) ?_
  refine k_aload f47_36 rfl ?_
  refine k_dup f47_37 ?_
  refine k_gI (w := nI (n + 1)) f47_38 hS.o9 rfl (Eq.trans (z_u_p _ _ _ _ (by decide)) (z_u_same _ _ _ _)) ?_
  refine k_iconst (v := 1) f47_41 rfl ?_
  refine k_iadd f47_42 ?_
  rw [nI_1]
  refine k_putI f47_43 hS.o9 rfl ?_
  refine k_iinc (w := 8) (L' := [.ref 9, .int (v), .int (8)]) f47_46 rfl (by decide) rfl rfl ?_
  refine k_goto f47_49 ?_
  refine k_iload f47_3 rfl ?_
  refine k_if_lt f47_4 (fun h_ => absurd h_ (by decide)) (fun _ => ?_)
  refine k_aload f47_7 rfl ?_
  refine k_gI (w := nI ((n + 1) + 1)) f47_8 hS.o9 rfl (z_u_same _ _ _ _) ?_
  refine k_aload f47_11 rfl ?_
  refine k_getr (q := 10) f47_12 hS.o9 rfl hR.r9_0 ?_
  refine k_alen (v := nI 400) f47_15 hS.a10 rfl rfl ?_
  refine k_ic_ge f47_16 (fun h_ => absurd h_ (nI_ge (by omega) (by omega))) (fun _ => ?_)
  refine k_aload f47_19 rfl ?_
  refine k_getr (q := 10) f47_20 hS.o9 rfl hR.r9_0 ?_
  refine k_aload f47_23 rfl ?_
  refine k_gI (w := nI ((n + 1) + 1)) f47_24 hS.o9 rfl (z_u_same _ _ _ _) ?_
  refine k_iload f47_27 rfl ?_
  refine k_iload f47_28 rfl ?_
  refine k_iushr f47_29 ?_
  refine k_iconst (v := 255) f47_30 rfl ?_
  refine k_iand f47_33 ?_
  refine k_i2c f47_34 ?_
  refine k_cast (k := ((n + 1) + 1)) (w := cb v 8) f47_35 hS.a10 (vp_in_nI (by omega) (by decide)) (nI_clamp (by omega)) (pk_vc _) ?_
  refine k_aload f47_36 rfl ?_
  refine k_dup f47_37 ?_
  refine k_gI (w := nI ((n + 1) + 1)) f47_38 hS.o9 rfl (Eq.trans (z_u_p _ _ _ _ (by decide)) (z_u_same _ _ _ _)) ?_
  refine k_iconst (v := 1) f47_41 rfl ?_
  refine k_iadd f47_42 ?_
  rw [nI_1]
  refine k_putI f47_43 hS.o9 rfl ?_
  refine k_iinc (w := 0) (L' := [.ref 9, .int (v), .int (0)]) f47_46 rfl (by decide) rfl rfl ?_
  refine k_goto f47_49 ?_
  refine k_iload f47_3 rfl ?_
  refine k_if_lt f47_4 (fun h_ => absurd h_ (by decide)) (fun _ => ?_)
  refine k_aload f47_7 rfl ?_
  refine k_gI (w := nI (((n + 1) + 1) + 1)) f47_8 hS.o9 rfl (z_u_same _ _ _ _) ?_
  refine k_aload f47_11 rfl ?_
  refine k_getr (q := 10) f47_12 hS.o9 rfl hR.r9_0 ?_
  refine k_alen (v := nI 400) f47_15 hS.a10 rfl rfl ?_
  refine k_ic_ge f47_16 (fun h_ => absurd h_ (nI_ge (by omega) (by omega))) (fun _ => ?_)
  refine k_aload f47_19 rfl ?_
  refine k_getr (q := 10) f47_20 hS.o9 rfl hR.r9_0 ?_
  refine k_aload f47_23 rfl ?_
  refine k_gI (w := nI (((n + 1) + 1) + 1)) f47_24 hS.o9 rfl (z_u_same _ _ _ _) ?_
  refine k_iload f47_27 rfl ?_
  refine k_iload f47_28 rfl ?_
  refine k_iushr f47_29 ?_
  refine k_iconst (v := 255) f47_30 rfl ?_
  refine k_iand f47_33 ?_
  refine k_i2c f47_34 ?_
  refine k_cast (k := (((n + 1) + 1) + 1)) (w := cb v 0) f47_35 hS.a10 (vp_in_nI (by omega) (by decide)) (nI_clamp (by omega)) (pk_vc _) ?_
  refine k_aload f47_36 rfl ?_
  refine k_dup f47_37 ?_
  refine k_gI (w := nI (((n + 1) + 1) + 1)) f47_38 hS.o9 rfl (Eq.trans (z_u_p _ _ _ _ (by decide)) (z_u_same _ _ _ _)) ?_
  refine k_iconst (v := 1) f47_41 rfl ?_
  refine k_iadd f47_42 ?_
  rw [nI_1]
  refine k_putI f47_43 hS.o9 rfl ?_
  refine k_iinc (w := (-8)) (L' := [.ref 9, .int (v), .int ((-8))]) f47_46 rfl (by decide) rfl rfl ?_
  refine k_goto f47_49 ?_
  refine k_iload f47_3 rfl ?_
  refine k_if_lt f47_4 (fun _ => ?_) (fun h_ => absurd (by decide) h_)
  exact k_vret f47_52 ⟨rfl, rfl⟩
theorem s_four {x : Nat × (Nat → Int32)} {d : Nat} {I : Nat → Nat → Int32} {J : Nat → Nat → Int64} {R : Nat → Nat → Option Nat} {G : zG} {v : Int32} {n : Nat} (hR : Rs R) (hS : Sh G) (hq : I 51 1 = nI n) (hn : n + 4 ≤ 400) : zRn x d 113 [.ref 51, .int (v)] (I, J, R, G) (none) (adL 52 51 I n (bbL v), J, R, G) := by
  show zOk x d 113 0 [.ref 51, .int (v), zU] [] _ _
  refine k_iconst (v := 24) f113_0 rfl ?_
  refine k_istore (L' := [.ref 51, .int (v), .int (24)]) f113_2 rfl rfl ?_
  refine k_iload f113_3 rfl ?_
  refine k_if_lt f113_4 (fun h_ => absurd h_ (by decide)) (fun _ => ?_)
  refine k_aload f113_7 rfl ?_
  refine k_getr (q := 52) f113_8 hS.o51 rfl hR.r51_0 ?_
  refine k_aload f113_11 rfl ?_
  refine k_gI (w := nI n) f113_12 hS.o51 rfl hq ?_
  refine k_iload f113_15 rfl ?_
  refine k_iload f113_16 rfl ?_
  refine k_ishr f113_17 ?_
  refine k_i2b f113_18 ?_
  refine k_bast (k := n) (w := bb v 24) f113_19 hS.a52 (vp_in_nI (by omega) (by decide)) (nI_clamp (by omega)) (pk_vb _) ?_
  refine k_aload f113_20 rfl ?_
  refine k_dup f113_21 ?_
  refine k_gI (w := nI n) f113_22 hS.o51 rfl (Eq.trans (z_u_p _ _ _ _ (by decide)) hq) ?_
  refine k_iconst (v := 1) f113_25 rfl ?_
  refine k_iadd f113_26 ?_
  rw [nI_1]
  refine k_putI f113_27 hS.o51 rfl ?_
  refine k_iinc (w := 16) (L' := [.ref 51, .int (v), .int (16)]) f113_30 rfl (by decide) rfl rfl ?_
  refine k_goto f113_33 ?_
  refine k_iload f113_3 rfl ?_
  refine k_if_lt f113_4 (fun h_ => absurd h_ (by decide)) (fun _ => ?_)
  refine k_aload f113_7 rfl ?_
  refine k_getr (q := 52) f113_8 hS.o51 rfl hR.r51_0 ?_
  refine k_aload f113_11 rfl ?_
  refine k_gI (w := nI (n + 1)) f113_12 hS.o51 rfl (z_u_same _ _ _ _) ?_
  refine k_iload f113_15 rfl ?_
  refine k_iload f113_16 rfl ?_
  refine k_ishr f113_17 ?_
  refine k_i2b f113_18 ?_
  refine k_bast (k := (n + 1)) (w := bb v 16) f113_19 hS.a52 (vp_in_nI (by omega) (by decide)) (nI_clamp (by omega)) (pk_vb _) ?_
  refine k_aload f113_20 rfl ?_
  refine k_dup f113_21 ?_
  refine k_gI (w := nI (n + 1)) f113_22 hS.o51 rfl (Eq.trans (z_u_p _ _ _ _ (by decide)) (z_u_same _ _ _ _)) ?_
  refine k_iconst (v := 1) f113_25 rfl ?_
  refine k_iadd f113_26 ?_
  rw [nI_1]
  refine k_putI f113_27 hS.o51 rfl ?_
  refine k_iinc (w := 8) (L' := [.ref 51, .int (v), .int (8)]) f113_30 rfl (by decide) rfl rfl ?_
  refine k_goto f113_33 ?_
  refine k_iload f113_3 rfl ?_
  refine k_if_lt f113_4 (fun h_ => absurd h_ (by decide)) (fun _ => ?_)
  refine k_aload f113_7 rfl ?_
  refine k_getr (q := 52) f113_8 hS.o51 rfl hR.r51_0 ?_
  refine k_aload f113_11 rfl ?_
  refine k_gI (w := nI ((n + 1) + 1)) f113_12 hS.o51 rfl (z_u_same _ _ _ _) ?_
  refine k_iload f113_15 rfl ?_
  refine k_iload f113_16 rfl ?_
  refine k_ishr f113_17 ?_
  refine k_i2b f113_18 ?_
  refine k_bast (k := ((n + 1) + 1)) (w := bb v 8) f113_19 hS.a52 (vp_in_nI (by omega) (by decide)) (nI_clamp (by omega)) (pk_vb _) ?_
  refine k_aload f113_20 rfl ?_
  refine k_dup f113_21 ?_
  refine k_gI (w := nI ((n + 1) + 1)) f113_22 hS.o51 rfl (Eq.trans (z_u_p _ _ _ _ (by decide)) (z_u_same _ _ _ _)) ?_
  refine k_iconst (v := 1) f113_25 rfl ?_
  refine k_iadd f113_26 ?_
  rw [nI_1]
  refine k_putI f113_27 hS.o51 rfl ?_
  refine k_iinc (w := 0) (L' := [.ref 51, .int (v), .int (0)]) f113_30 rfl (by decide) rfl rfl ?_
  refine k_goto f113_33 ?_
  refine k_iload f113_3 rfl ?_
  refine k_if_lt f113_4 (fun h_ => absurd h_ (by decide)) (fun _ => ?_)
  refine k_aload f113_7 rfl ?_
  refine k_getr (q := 52) f113_8 hS.o51 rfl hR.r51_0 ?_
  refine k_aload f113_11 rfl ?_
  refine k_gI (w := nI (((n + 1) + 1) + 1)) f113_12 hS.o51 rfl (z_u_same _ _ _ _) ?_
  refine k_iload f113_15 rfl ?_
  refine k_iload f113_16 rfl ?_
  refine k_ishr f113_17 ?_
  refine k_i2b f113_18 ?_
  refine k_bast (k := (((n + 1) + 1) + 1)) (w := bb v 0) f113_19 hS.a52 (vp_in_nI (by omega) (by decide)) (nI_clamp (by omega)) (pk_vb _) ?_
  refine k_aload f113_20 rfl ?_
  refine k_dup f113_21 ?_
  refine k_gI (w := nI (((n + 1) + 1) + 1)) f113_22 hS.o51 rfl (Eq.trans (z_u_p _ _ _ _ (by decide)) (z_u_same _ _ _ _)) ?_
  refine k_iconst (v := 1) f113_25 rfl ?_
  refine k_iadd f113_26 ?_
  rw [nI_1]
  refine k_putI f113_27 hS.o51 rfl ?_
  refine k_iinc (w := (-8)) (L' := [.ref 51, .int (v), .int ((-8))]) f113_30 rfl (by decide) rfl rfl ?_
  refine k_goto f113_33 ?_
  refine k_iload f113_3 rfl ?_
  refine k_if_lt f113_4 (fun _ => ?_) (fun h_ => absurd (by decide) h_)
  exact k_vret f113_36 ⟨rfl, rfl⟩
