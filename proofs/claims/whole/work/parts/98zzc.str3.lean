/-! STRANGERS, the pair. -/
theorem lp_bsD {x : Nat × (Nat → Int32)} {d : Nat} {I : Nat → Nat → Int32} {J : Nat → Nat → Int64} {R : Nat → Nat → Option Nat} {G : zG} {P : Nat} {L : List Nat} (hR : Rs R) (hS : Sh G) (hP : P < 11) (h0 : I 62 0 = nI P) (hc : L.length ≤ 8) (hL : RwL I 66 L) : ∀ (f i : Nat) (o : Option Nat) (u4 u5 : Value), i + f = 2 ^ P → (∀ b, o = some b → b < 1024) → zOk x (d + 1) 191 72 [.ref 51, .int (nI L.length), .int (oI o), .int (nI i), u4, u5] [] (I, J, R, G) (fun v m => v = some (.int (oI (foL (bsD L) i f o))) ∧ m = (I, J, R, G)) := by
  have hT : 2 ^ P ≤ 1024 := Nat.le_trans (Nat.pow_le_pow_right (by omega) (show P ≤ 10 by omega)) (Nat.le_refl _)
  intro f
  induction f with
  | zero =>
    intro i o u4 u5 hi hb
    refine k_iload f191_72 rfl ?_
    refine k_iconst (v := 1) f191_73 rfl ?_
    refine k_aload f191_74 rfl ?_
    refine k_getr (q := 62) f191_75 hS.o51 rfl hR.r51_25 ?_
    refine k_iconst (v := 0) f191_78 rfl ?_
    refine k_ia (k := 0) (w := nI P) f191_79 hS.a62 rfl (by decide) (by decide) h0 ?_
    refine k_ishl f191_80 ?_
    rw [sh_1 P (by omega)]
    refine k_ic_ge f191_81 (fun _ => ?_) (fun h_ => absurd (nI_le (by omega) (by omega)) h_)
    refine k_iload f191_162 rfl ?_
    exact k_iret f191_163 rfl ⟨rfl, rfl⟩
  | succ f ih =>
    intro i o u4 u5 hi hb
    rw [foL_s]
    have hi9 : i < 1024 := by omega
    rcases o with _ | b
    · show zOk x (d + 1) 191 72 [.ref 51, .int (nI L.length), .int ((-1)), .int (nI i), u4, u5] [] (I, J, R, G) _
      refine k_iload f191_72 rfl ?_
      refine k_iconst (v := 1) f191_73 rfl ?_
      refine k_aload f191_74 rfl ?_
      refine k_getr (q := 62) f191_75 hS.o51 rfl hR.r51_25 ?_
      refine k_iconst (v := 0) f191_78 rfl ?_
      refine k_ia (k := 0) (w := nI P) f191_79 hS.a62 rfl (by decide) (by decide) h0 ?_
      refine k_ishl f191_80 ?_
      rw [sh_1 P (by omega)]
      refine k_ic_ge f191_81 (fun h_ => absurd h_ (nI_ge (by omega) (by omega))) (fun _ => ?_)
      refine k_iload f191_84 rfl ?_
      refine k_if_lt f191_85 (fun _ => ?_) (fun h_ => absurd (by decide) h_)
      refine k_iconst (v := 1) f191_99 rfl ?_
      refine k_goto f191_100 ?_
      refine k_istore (L' := [.ref 51, .int (nI L.length), .int ((-1)), .int (nI i), .int (1), u5]) f191_104 rfl rfl ?_
      refine k_iconst (v := 0) f191_106 rfl ?_
      refine k_istore (L' := [.ref 51, .int (nI L.length), .int ((-1)), .int (nI i), .int (1), .int (0)]) f191_107 rfl rfl ?_
      refine lp_is (d := d + 1) (c := L.length) (be := (-1)) hR hS hi9 hc L 0 (by omega) (fun j hj => by rw [Nat.zero_add]; exact hL j hj) (fun v5 => ?_)
      by_cases ht : tch L i = true
      · refine k_iload f191_145 rfl ?_
        refine k_beq f191_147 (fun h_ => absurd (ht) h_) (fun _ => ?_)
        refine k_iload f191_150 rfl ?_
        refine k_goto f191_151 ?_
        refine k_istore (L' := [.ref 51, .int (nI L.length), .int (nI i), .int (nI i), .int (bI (tch L i = true)), v5]) f191_155 rfl rfl ?_
        refine k_iinc (w := nI (i + 1)) (L' := [.ref 51, .int (nI L.length), .int (nI i), .int (nI (i + 1)), .int (bI (tch L i = true)), v5]) f191_156 rfl (nI_1 i) rfl rfl ?_
        refine k_goto f191_159 ?_
        rw [show bsD L i none = some i from if_pos ⟨fun b hb => (by cases hb), ht⟩]
        exact ih (i + 1) (some i) _ _ (by omega) (fun b h => by cases h; omega)
      · refine k_iload f191_145 rfl ?_
        refine k_beq f191_147 (fun _ => ?_) (fun h_ => (absurd h_ (ht)))
        refine k_iload f191_154 rfl ?_
        refine k_istore (L' := [.ref 51, .int (nI L.length), .int ((-1)), .int (nI i), .int (bI (tch L i = true)), v5]) f191_155 rfl rfl ?_
        refine k_iinc (w := nI (i + 1)) (L' := [.ref 51, .int (nI L.length), .int ((-1)), .int (nI (i + 1)), .int (bI (tch L i = true)), v5]) f191_156 rfl (nI_1 i) rfl rfl ?_
        refine k_goto f191_159 ?_
        rw [show bsD L i none = none from if_neg (fun q => ht q.2)]
        exact ih (i + 1) (none) _ _ (by omega) hb
    · have hb9 := hb b rfl
      show zOk x (d + 1) 191 72 [.ref 51, .int (nI L.length), .int (nI b), .int (nI i), u4, u5] [] (I, J, R, G) _
      have l1 := popc_le b hb9
      have l2 := popc_le i hi9
      by_cases hp : popc b ≤ popc i
      · refine k_iload f191_72 rfl ?_
        refine k_iconst (v := 1) f191_73 rfl ?_
        refine k_aload f191_74 rfl ?_
        refine k_getr (q := 62) f191_75 hS.o51 rfl hR.r51_25 ?_
        refine k_iconst (v := 0) f191_78 rfl ?_
        refine k_ia (k := 0) (w := nI P) f191_79 hS.a62 rfl (by decide) (by decide) h0 ?_
        refine k_ishl f191_80 ?_
        rw [sh_1 P (by omega)]
        refine k_ic_ge f191_81 (fun h_ => absurd h_ (nI_ge (by omega) (by omega))) (fun _ => ?_)
        refine k_iload f191_84 rfl ?_
        refine k_if_lt f191_85 (fun h_ => absurd h_ (nI_pos (by omega))) (fun _ => ?_)
        refine k_iload f191_88 rfl ?_
        refine e_s (as := [.int (nI i)]) (rest := []) f191_89 rfl rfl rfl (s_bits (k := i) (by omega)) ?_
        refine k_iload f191_92 rfl ?_
        refine e_s (as := [.int (nI b)]) (rest := [.int (nI (popc i))]) f191_93 rfl rfl rfl (s_bits (k := b) (by omega)) ?_
        refine k_ic_ge f191_96 (fun _ => ?_) (fun h_ => absurd ((nI_leI (a := popc b) (b := popc i) (by omega) (by omega)).mpr hp) h_)
        refine k_iconst (v := 0) f191_103 rfl ?_
        refine k_istore (L' := [.ref 51, .int (nI L.length), .int (nI b), .int (nI i), .int (0), u5]) f191_104 rfl rfl ?_
        refine k_iconst (v := 0) f191_106 rfl ?_
        refine k_istore (L' := [.ref 51, .int (nI L.length), .int (nI b), .int (nI i), .int (0), .int (0)]) f191_107 rfl rfl ?_
        refine k_iload f191_109 rfl ?_
        refine k_iload f191_111 rfl ?_
        refine k_ic_ge f191_112 (fun g0 => ?_) (fun g0 => ?_)
        · refine k_iload f191_145 rfl ?_
          refine k_if_eq f191_147 (fun _ => ?_) (fun h_ => absurd (by decide) h_)
          refine k_iload f191_154 rfl ?_
          refine k_istore (L' := [.ref 51, .int (nI L.length), .int (nI b), .int (nI i), .int (0), .int (0)]) f191_155 rfl rfl ?_
          refine k_iinc (w := nI (i + 1)) (L' := [.ref 51, .int (nI L.length), .int (nI b), .int (nI (i + 1)), .int (0), .int (0)]) f191_156 rfl (nI_1 i) rfl rfl ?_
          refine k_goto f191_159 ?_
          rw [show bsD L i (some b) = some b from if_neg (fun q => by have := q.1 b rfl; omega)]
          exact ih (i + 1) (some b) _ _ (by omega) hb
        · refine k_iload f191_115 rfl ?_
          refine k_if_eq f191_117 (fun _ => ?_) (fun h_ => absurd (by decide) h_)
          refine k_iload f191_145 rfl ?_
          refine k_if_eq f191_147 (fun _ => ?_) (fun h_ => absurd (by decide) h_)
          refine k_iload f191_154 rfl ?_
          refine k_istore (L' := [.ref 51, .int (nI L.length), .int (nI b), .int (nI i), .int (0), .int (0)]) f191_155 rfl rfl ?_
          refine k_iinc (w := nI (i + 1)) (L' := [.ref 51, .int (nI L.length), .int (nI b), .int (nI (i + 1)), .int (0), .int (0)]) f191_156 rfl (nI_1 i) rfl rfl ?_
          refine k_goto f191_159 ?_
          rw [show bsD L i (some b) = some b from if_neg (fun q => by have := q.1 b rfl; omega)]
          exact ih (i + 1) (some b) _ _ (by omega) hb
      · refine k_iload f191_72 rfl ?_
        refine k_iconst (v := 1) f191_73 rfl ?_
        refine k_aload f191_74 rfl ?_
        refine k_getr (q := 62) f191_75 hS.o51 rfl hR.r51_25 ?_
        refine k_iconst (v := 0) f191_78 rfl ?_
        refine k_ia (k := 0) (w := nI P) f191_79 hS.a62 rfl (by decide) (by decide) h0 ?_
        refine k_ishl f191_80 ?_
        rw [sh_1 P (by omega)]
        refine k_ic_ge f191_81 (fun h_ => absurd h_ (nI_ge (by omega) (by omega))) (fun _ => ?_)
        refine k_iload f191_84 rfl ?_
        refine k_if_lt f191_85 (fun h_ => absurd h_ (nI_pos (by omega))) (fun _ => ?_)
        refine k_iload f191_88 rfl ?_
        refine e_s (as := [.int (nI i)]) (rest := []) f191_89 rfl rfl rfl (s_bits (k := i) (by omega)) ?_
        refine k_iload f191_92 rfl ?_
        refine e_s (as := [.int (nI b)]) (rest := [.int (nI (popc i))]) f191_93 rfl rfl rfl (s_bits (k := b) (by omega)) ?_
        refine k_ic_ge f191_96 (fun h_ => absurd h_ ((fun q => hp ((nI_leI (a := popc b) (b := popc i) (by omega) (by omega)).mp q)))) (fun _ => ?_)
        refine k_iconst (v := 1) f191_99 rfl ?_
        refine k_goto f191_100 ?_
        refine k_istore (L' := [.ref 51, .int (nI L.length), .int (nI b), .int (nI i), .int (1), u5]) f191_104 rfl rfl ?_
        refine k_iconst (v := 0) f191_106 rfl ?_
        refine k_istore (L' := [.ref 51, .int (nI L.length), .int (nI b), .int (nI i), .int (1), .int (0)]) f191_107 rfl rfl ?_
        refine lp_is (d := d + 1) (c := L.length) (be := nI b) hR hS hi9 hc L 0 (by omega) (fun j hj => by rw [Nat.zero_add]; exact hL j hj) (fun v5 => ?_)
        by_cases ht : tch L i = true
        · refine k_iload f191_145 rfl ?_
          refine k_beq f191_147 (fun h_ => absurd (ht) h_) (fun _ => ?_)
          refine k_iload f191_150 rfl ?_
          refine k_goto f191_151 ?_
          refine k_istore (L' := [.ref 51, .int (nI L.length), .int (nI i), .int (nI i), .int (bI (tch L i = true)), v5]) f191_155 rfl rfl ?_
          refine k_iinc (w := nI (i + 1)) (L' := [.ref 51, .int (nI L.length), .int (nI i), .int (nI (i + 1)), .int (bI (tch L i = true)), v5]) f191_156 rfl (nI_1 i) rfl rfl ?_
          refine k_goto f191_159 ?_
          rw [show bsD L i (some b) = some i from if_pos ⟨fun c hc => (by cases hc; omega), ht⟩]
          exact ih (i + 1) (some i) _ _ (by omega) (fun b h => by cases h; omega)
        · refine k_iload f191_145 rfl ?_
          refine k_beq f191_147 (fun _ => ?_) (fun h_ => (absurd h_ (ht)))
          refine k_iload f191_154 rfl ?_
          refine k_istore (L' := [.ref 51, .int (nI L.length), .int (nI b), .int (nI i), .int (bI (tch L i = true)), v5]) f191_155 rfl rfl ?_
          refine k_iinc (w := nI (i + 1)) (L' := [.ref 51, .int (nI L.length), .int (nI b), .int (nI (i + 1)), .int (bI (tch L i = true)), v5]) f191_156 rfl (nI_1 i) rfl rfl ?_
          refine k_goto f191_159 ?_
          rw [show bsD L i (some b) = some b from if_neg (fun q => ht q.2)]
          exact ih (i + 1) (some b) _ _ (by omega) hb
theorem foL_end {α : Type} (F : Nat → α → α) : ∀ (f i : Nat) (z : α), foL F i (f + 1) z = F (i + f) (foL F i f z) := by
  intro f
  induction f with
  | zero => intro i z; rfl
  | succ f ih =>
    intro i z
    rw [foL_s, ih, foL_s, Nat.add_right_comm, Nat.add_assoc]
theorem op_strangers {x : Nat × (Nat → Int32)} : Op Inv x 87 191 [] := by
  refine Op.of2 fun j I J R G hj hI => ?_
  have hS : Sh G := hI.1
  have hR : Rs R := hI.2.1
  have hT1 : Rg (I 9 1) 401 := hI.2.2.2.2.1.1
  have hT2 : I 51 1 = I 9 1 := hI.2.2.2.2.1.2.1
  have hN1 : Rg (I 0 4) 7 := hI.2.2.2.2.2.1.1
  have hN2 : I 51 2 = I 0 4 := hI.2.2.2.2.2.1.2.1
  have hN3 : ∀ t, t < cl (I 0 4) → ∃ r, R 16 t = some r ∧ RuR I R G t r := hI.2.2.2.2.2.1.2.2
  obtain ⟨pl, hst⟩ : ∃ pl, StR I R G 17 pl (I 62) := hI.2.2.2.2.2.2.1
  have hO : SOk (I 62) (cl (I 0 4)) := hI.2.2.2.2.2.2.2.1
  by_cases hT : ¬ I 62 0 ≤ 0
  · show zOk x 399 87 0 [.ref 0, zU, zU, zU, zU] [] _ _
    refine k_aload f87_0 rfl ?_
    refine e_v (as := []) (rest := []) f87_1 hS.o0 rfl rfl rfl (s_hasTown hR hS hst) ?_
    refine k_bne f87_4 (fun _ => ?_) (fun h_ => absurd (hT) h_)
    refine k_iconst (v := 0) f87_9 rfl ?_
    refine k_istore (L' := [.ref 0, .int (0), zU, zU, zU]) f87_10 rfl rfl ?_
    refine k_iconst (v := 0) f87_11 rfl ?_
    refine k_istore (L' := [.ref 0, .int (0), .int (0), zU, zU]) f87_12 rfl rfl ?_
    refine lp_strC (d := 392) hR hS hst hO ⟨hN1, hN3⟩ (fun I1 J1 R1 u2 u3 u4 hc1 hrl1 => ?_) (cl (I 62 1)) 0 I J R _ _ (by omega) ⟨CFh.rfl, fun k hk => absurd hk (Nat.not_lt_zero _)⟩
    obtain ⟨L, eL⟩ : ∃ L, L = rcL I (I 62) (cl (I 62 1)) := ⟨_, rfl⟩
    rw [← eL] at hrl1 ⊢
    have hL8 : L.length ≤ 8 := by rw [eL]; exact Nat.le_trans (rcL_len _) (by have := hO.2.1.2; omega)
    have hR1 : Rs R1 := hc1.rs hS hR
    have hst1 := hc1.st hst (by have := hO.2.1.2; omega)
    refine k_iconst (v := 1) f87_65 rfl ?_
    refine k_aload f87_66 rfl ?_
    refine k_getr (q := 17) f87_67 hS.o0 rfl hR1.r0_5 ?_
    refine k_getr (q := pl) f87_70 hS.o17 rfl hst1.2.1 ?_
    refine k_gI (w := nI (cl (I 62 0))) f87_73 hst1.2.2.1.2.1 rfl (hst1.2.2.2.1.1.trans hO.1.1) ?_
    refine k_ishl f87_76 ?_
    rw [sh_1 (cl (I 62 0)) (by have := hO.1.2; omega)]
    refine k_iconst (v := 1) f87_77 rfl ?_
    refine k_isub f87_78 ?_
    rw [show nI (2 ^ cl (I 62 0)) - 1 = nI (2 ^ cl (I 62 0) - 1) from pk_sub (b := 1) Nat.one_le_two_pow]
    refine k_istore (L' := [.ref 0, .int (nI L.length), .int (nI (2 ^ cl (I 62 0) - 1)), u3, u4]) f87_79 rfl rfl ?_
    refine k_iload f87_80 rfl ?_
    refine k_istore (L' := [.ref 0, .int (nI L.length), .int (nI (2 ^ cl (I 62 0) - 1)), .int (nI (2 ^ cl (I 62 0) - 1)), u4]) f87_81 rfl rfl ?_
    refine k_iconst (v := 0) f87_82 rfl ?_
    refine k_istore (L' := [.ref 0, .int (nI L.length), .int (nI (2 ^ cl (I 62 0) - 1)), .int (nI (2 ^ cl (I 62 0) - 1)), .int (0)]) f87_83 rfl rfl ?_
    have hP11 := hO.1.2
    have hE : 2 ^ cl (I 62 0) - 1 < 1024 := by have : 2 ^ cl (I 62 0) ≤ 2 ^ 10 := Nat.pow_le_pow_right (by omega) (by omega); omega
    refine zOk.imp (lp_bsC (d := 398) (E := 2 ^ cl (I 62 0) - 1) hR1 hS hE hL8 hrl1 (2 ^ cl (I 62 0) - 1) 0 (2 ^ cl (I 62 0) - 1) (by omega) hE) ?_
    rintro _ _ ⟨rfl, rfl⟩
    refine ⟨_, rfl, ?_⟩
    have hs1 : I1 62 = I 62 := funext fun k => hc1.1 62 k (by omega)
    show zOk x 399 191 0 [.ref 51, zU, zU, zU, zU, zU] [] _ _
    refine k_aload f191_0 rfl ?_
    refine k_getr (q := 62) f191_1 hS.o51 rfl hR1.r51_25 ?_
    refine k_iconst (v := 0) f191_4 rfl ?_
    refine k_ia (k := 0) (w := I 62 0) f191_5 hS.a62 rfl (by decide) (by decide) (congrFun hs1 0) ?_
    refine k_if_ne f191_6 (fun _ => ?_) (fun h_ => absurd ((fun e => hT (by rw [e]; decide))) h_)
    refine k_iconst (v := 0) f191_11 rfl ?_
    refine k_istore (L' := [.ref 51, .int (0), zU, zU, zU, zU]) f191_12 rfl rfl ?_
    refine k_iconst (v := 0) f191_13 rfl ?_
    refine k_istore (L' := [.ref 51, .int (0), .int (0), zU, zU, zU]) f191_14 rfl rfl ?_
    refine lp_strM (d := 392) (I0 := I1) (s := I 62) hR1 hS hs1 (by rw [hc1.1 0 4 (by omega)]; exact hO) (hc1.ra ⟨hN1, hN3⟩) (fun I2 J2 v2 v3 v4 v5 hf2 hrl2 => ?_) (cl (I 62 1)) 0 I1 _ _ _ _ (by omega) ⟨fun _ _ _ _ => rfl, fun k hk => absurd hk (Nat.not_lt_zero _)⟩
    have eR : ∀ c, rcL I1 (I 62) c = rcL I (I 62) c := by
      intro c
      induction c with
      | zero => rfl
      | succ c ih => unfold rcL; rw [ih, FDk_kr hc1.kr]
    rw [eR, ← eL] at hrl2 ⊢
    have h02 : I2 62 0 = nI (cl (I 62 0)) := ((hf2 62 0 (by omega) (by omega)).trans (congrFun hs1 0)).trans hO.1.1
    refine k_iconst (v := (-1)) f191_68 rfl ?_
    refine k_istore (L' := [.ref 51, .int (nI L.length), .int ((-1)), v3, v4, v5]) f191_69 rfl rfl ?_
    refine k_iconst (v := 0) f191_70 rfl ?_
    refine k_istore (L' := [.ref 51, .int (nI L.length), .int ((-1)), .int (0), v4, v5]) f191_71 rfl rfl ?_
    refine zOk.imp (lp_bsD (d := 398) (P := cl (I 62 0)) hR1 hS hP11 h02 hL8 hrl2 (2 ^ cl (I 62 0)) 0 none _ _ (by omega) (fun b h => by cases h)) ?_
    rintro _ _ ⟨rfl, rfl⟩
    have hp1 : 1 ≤ 2 ^ cl (I 62 0) := Nat.one_le_two_pow
    have hx := bs_eq (L := L) hP11 (2 ^ cl (I 62 0) - 1) 0 (2 ^ cl (I 62 0) - 1) none (by omega) rfl (fun c h => by cases h)
    have hl := bs_last (L := L) (o := foL (bsD L) 0 (2 ^ cl (I 62 0) - 1) none) hP11 (by rw [eL]; exact rcL_ev hO rfl _ (Nat.le_refl _)) hx.2
    have hsp : foL (bsD L) 0 (2 ^ cl (I 62 0)) none = bsD L (2 ^ cl (I 62 0) - 1) (foL (bsD L) 0 (2 ^ cl (I 62 0) - 1) none) := by
      have := foL_end (bsD L) (2 ^ cl (I 62 0) - 1) 0 none
      rw [Nat.zero_add, show 2 ^ cl (I 62 0) - 1 + 1 = 2 ^ cl (I 62 0) by omega] at this
      exact this
    refine ⟨by rw [hsp, hl, hx.1]; rfl, inv_q hI (by omega) (fun p k _ hs => ?_) (fun p k _ _ h => hc1.2 p k h)⟩
    rw [hf2 p k (fun h => hs (by unfold sc0; omega)) (fun h => hs (by unfold sc0; omega)), hc1.1 p k (fun h => hs (by unfold sc0; omega))]
  · show zOk x 399 87 0 [.ref 0, zU, zU, zU, zU] [] _ _
    refine k_aload f87_0 rfl ?_
    refine e_v (as := []) (rest := []) f87_1 hS.o0 rfl rfl rfl (s_hasTown hR hS hst) ?_
    refine k_bne f87_4 (fun h_ => absurd h_ (hT)) (fun _ => ?_)
    refine k_iconst (v := (-1)) f87_7 rfl ?_
    refine k_iret f87_8 rfl ⟨_, rfl, ?_⟩
    show zOk x 399 191 0 [.ref 51, zU, zU, zU, zU, zU] [] _ _
    refine k_aload f191_0 rfl ?_
    refine k_getr (q := 62) f191_1 hS.o51 rfl hR.r51_25 ?_
    refine k_iconst (v := 0) f191_4 rfl ?_
    refine k_ia (k := 0) (w := I 62 0) f191_5 hS.a62 rfl (by decide) (by decide) rfl ?_
    refine k_if_ne f191_6 (fun h_ => absurd (so_z hO.1 (by omega) hT) h_) (fun _ => ?_)
    refine k_iconst (v := (-1)) f191_9 rfl ?_
    refine k_iret f191_10 rfl ⟨rfl, ?_⟩
    exact inv_q hI (by omega) Kq.rfl KS.rfl
