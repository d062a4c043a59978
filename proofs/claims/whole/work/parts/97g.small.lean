/-! SMALL METHODS of both sides. -/
theorem bI_t {P : Prop} [Decidable P] (h : P) : some (Value.int 1) = some (.int (bI P)) := by rw [bI, if_pos h]
theorem bI_f {P : Prop} [Decidable P] (h : ¬ P) : some (Value.int 0) = some (.int (bI P)) := by rw [bI, if_neg h]
theorem ix_c (c k : Nat) : nI (8 + 6 * c + k) = ((8) + ((6) * (nI c))) + (nI k) := by
  rw [← nI_add, ← nI_add, ← pk_mul]; rfl
theorem ix_m (c k : Nat) : nI (56 + 3 * c + k) = ((56) + ((3) * (nI c))) + (nI k) := by
  rw [← nI_add, ← nI_add, ← pk_mul]; rfl
theorem ix_of {v a : Int32} {b : Nat} (h : Rg a b) (hb : b ≤ 2 ^ 31) (g : ¬ v < 0 ∧ ¬ a ≤ v) : ∃ c, c < cl a ∧ v = nI c := by
  have hlt := h.2
  rcases pk_ix v (n := cl a) (by omega) with q | q | ⟨c, hc, e⟩
  · exact absurd q g.1
  · rw [← h.1] at q
    exact absurd q g.2
  · exact ⟨c, hc, e⟩
theorem i64_lt (a b : Int32) : a.toInt64 < b.toInt64 ↔ a < b := by
  rw [Int64.lt_iff_toInt_lt, Int32.lt_iff_toInt_lt, Int32.toInt_toInt64, Int32.toInt_toInt64]
theorem lg_3 (a b : Int64) : a < b ∨ a = b ∨ b < a := by
  rw [Int64.lt_iff_toInt_lt, Int64.lt_iff_toInt_lt, ← Int64.toInt_inj]
  omega
theorem lg_ir {a b : Int64} (h : a < b) (h2 : b < a) : False := Int64.lt_irrefl (Int64.lt_trans h h2)
theorem lg_lt (a b : Int64) : lg_cmp a b < 0 ↔ a < b := by
  unfold lg_cmp
  rcases lg_3 a b with h | h | h
  · rw [if_neg fun q => lg_ir h q, if_neg fun q => Int64.lt_irrefl (q ▸ h)]
    exact ⟨fun _ => h, fun _ => by decide⟩
  · subst h
    rw [if_neg Int64.lt_irrefl, if_pos rfl]
    exact ⟨fun q => absurd q (by decide), fun q => absurd q Int64.lt_irrefl⟩
  · rw [if_pos h]
    exact ⟨fun q => absurd q (by decide), fun q => (lg_ir h q).elim⟩
theorem lg_gt (a b : Int64) : 0 < lg_cmp a b ↔ b < a := by
  unfold lg_cmp
  rcases lg_3 a b with h | h | h
  · rw [if_neg fun q => lg_ir h q, if_neg fun q => Int64.lt_irrefl (q ▸ h)]
    exact ⟨fun q => absurd q (by decide), fun q => (lg_ir h q).elim⟩
  · subst h
    rw [if_neg Int64.lt_irrefl, if_pos rfl]
    exact ⟨fun q => absurd q (by decide), fun q => absurd q Int64.lt_irrefl⟩
  · rw [if_pos h]
    exact ⟨fun _ => h, fun _ => by decide⟩
theorem s_hasTown {x : Nat × (Nat → Int32)} {d : Nat} {I : Nat → Nat → Int32} {J : Nat → Nat → Int64} {R : Nat → Nat → Option Nat} {G : zG} {pl : Nat} {s : Nat → Int32} (hR : Rs R) (hS : Sh G) (hst : StR I R G 17 pl s) : zRn x d 99 [.ref 0] (I, J, R, G) (some (.int (bI (¬ s 0 ≤ 0)))) (I, J, R, G) := by
  show zOk x d 99 0 [.ref 0] [] _ _
  refine k_aload f99_0 rfl ?_
  refine k_getr (q := 17) f99_1 hS.o0 rfl hR.r0_5 ?_
  refine k_getr (q := pl) f99_4 hS.o17 rfl hst.2.1 ?_
  refine k_gI (w := s 0) f99_7 hst.2.2.1.2.1 rfl hst.2.2.2.1.1 ?_
  refine k_if_le f99_10 (fun g0 => ?_) (fun g0 => ?_)
  · refine k_iconst (v := 0) f99_17 rfl ?_
    exact k_iret f99_18 (by decide) ⟨bI_f fun h => h g0, rfl⟩
  · refine k_iconst (v := 1) f99_13 rfl ?_
    refine k_goto f99_14 ?_
    exact k_iret f99_18 (by decide) ⟨bI_t g0, rfl⟩
theorem s_hasPerson {x : Nat × (Nat → Int32)} {d : Nat} {I : Nat → Nat → Int32} {J : Nat → Nat → Int64} {R : Nat → Nat → Option Nat} {G : zG} {v : Int32} {pl : Nat} {s : Nat → Int32} (hR : Rs R) (hS : Sh G) (hst : StR I R G 17 pl s) : zRn x d 100 [.ref 0, .int (v)] (I, J, R, G) (some (.int (bI (¬ v < 0 ∧ ¬ s 0 ≤ v)))) (I, J, R, G) := by
  show zOk x d 100 0 [.ref 0, .int (v)] [] _ _
  refine k_iload f100_0 rfl ?_
  refine k_if_lt f100_1 (fun g0 => ?_) (fun g0 => ?_)
  · refine k_iconst (v := 0) f100_22 rfl ?_
    exact k_iret f100_23 (by decide) ⟨bI_f fun h => h.1 g0, rfl⟩
  · refine k_iload f100_4 rfl ?_
    refine k_aload f100_5 rfl ?_
    refine k_getr (q := 17) f100_6 hS.o0 rfl hR.r0_5 ?_
    refine k_getr (q := pl) f100_9 hS.o17 rfl hst.2.1 ?_
    refine k_gI (w := s 0) f100_12 hst.2.2.1.2.1 rfl hst.2.2.2.1.1 ?_
    refine k_ic_ge f100_15 (fun g1 => ?_) (fun g1 => ?_)
    · refine k_iconst (v := 0) f100_22 rfl ?_
      exact k_iret f100_23 (by decide) ⟨bI_f fun h => h.2 g1, rfl⟩
    · refine k_iconst (v := 1) f100_18 rfl ?_
      refine k_goto f100_19 ?_
      exact k_iret f100_23 (by decide) ⟨bI_t ⟨g0, g1⟩, rfl⟩
theorem s_hasCoin {x : Nat × (Nat → Int32)} {d : Nat} {I : Nat → Nat → Int32} {J : Nat → Nat → Int64} {R : Nat → Nat → Option Nat} {G : zG} {v : Int32} {pl : Nat} {s : Nat → Int32} (hR : Rs R) (hS : Sh G) (hst : StR I R G 17 pl s) : zRn x d 101 [.ref 0, .int (v)] (I, J, R, G) (some (.int (bI (¬ v < 0 ∧ ¬ s 1 ≤ v)))) (I, J, R, G) := by
  show zOk x d 101 0 [.ref 0, .int (v)] [] _ _
  refine k_iload f101_0 rfl ?_
  refine k_if_lt f101_1 (fun g0 => ?_) (fun g0 => ?_)
  · refine k_iconst (v := 0) f101_22 rfl ?_
    exact k_iret f101_23 (by decide) ⟨bI_f fun h => h.1 g0, rfl⟩
  · refine k_iload f101_4 rfl ?_
    refine k_aload f101_5 rfl ?_
    refine k_getr (q := 17) f101_6 hS.o0 rfl hR.r0_5 ?_
    refine k_getr (q := pl) f101_9 hS.o17 rfl hst.2.1 ?_
    refine k_gI (w := s 1) f101_12 hst.2.2.1.2.1 rfl hst.2.2.2.1.2.2.1 ?_
    refine k_ic_ge f101_15 (fun g1 => ?_) (fun g1 => ?_)
    · refine k_iconst (v := 0) f101_22 rfl ?_
      exact k_iret f101_23 (by decide) ⟨bI_f fun h => h.2 g1, rfl⟩
    · refine k_iconst (v := 1) f101_18 rfl ?_
      refine k_goto f101_19 ?_
      exact k_iret f101_23 (by decide) ⟨bI_t ⟨g0, g1⟩, rfl⟩
theorem s_hasMeeting {x : Nat × (Nat → Int32)} {d : Nat} {I : Nat → Nat → Int32} {J : Nat → Nat → Int64} {R : Nat → Nat → Option Nat} {G : zG} {v : Int32} {pl : Nat} {s : Nat → Int32} (hR : Rs R) (hS : Sh G) (hst : StR I R G 17 pl s) : zRn x d 102 [.ref 0, .int (v)] (I, J, R, G) (some (.int (bI (¬ v < 0 ∧ ¬ s 2 ≤ v)))) (I, J, R, G) := by
  show zOk x d 102 0 [.ref 0, .int (v)] [] _ _
  refine k_iload f102_0 rfl ?_
  refine k_if_lt f102_1 (fun g0 => ?_) (fun g0 => ?_)
  · refine k_iconst (v := 0) f102_22 rfl ?_
    exact k_iret f102_23 (by decide) ⟨bI_f fun h => h.1 g0, rfl⟩
  · refine k_iload f102_4 rfl ?_
    refine k_aload f102_5 rfl ?_
    refine k_getr (q := 17) f102_6 hS.o0 rfl hR.r0_5 ?_
    refine k_getr (q := pl) f102_9 hS.o17 rfl hst.2.1 ?_
    refine k_gI (w := s 2) f102_12 hst.2.2.1.2.1 rfl hst.2.2.2.1.2.2.2.1 ?_
    refine k_ic_ge f102_15 (fun g1 => ?_) (fun g1 => ?_)
    · refine k_iconst (v := 0) f102_22 rfl ?_
      exact k_iret f102_23 (by decide) ⟨bI_f fun h => h.2 g1, rfl⟩
    · refine k_iconst (v := 1) f102_18 rfl ?_
      refine k_goto f102_19 ?_
      exact k_iret f102_23 (by decide) ⟨bI_t ⟨g0, g1⟩, rfl⟩
theorem s_isPerson {x : Nat × (Nat → Int32)} {d : Nat} {I : Nat → Nat → Int32} {J : Nat → Nat → Int64} {R : Nat → Nat → Option Nat} {G : zG} {v w : Int32} (hR : Rs R) (hS : Sh G) (hw : I 62 0 = w) : zRn x d 153 [.ref 51, .int (v)] (I, J, R, G) (some (.int (bI (¬ v < 0 ∧ ¬ w ≤ v)))) (I, J, R, G) := by
  show zOk x d 153 0 [.ref 51, .int (v)] [] _ _
  refine k_iload f153_0 rfl ?_
  refine k_if_lt f153_1 (fun g0 => ?_) (fun g0 => ?_)
  · refine k_iconst (v := 0) f153_18 rfl ?_
    exact k_iret f153_19 (by decide) ⟨bI_f fun h => h.1 g0, rfl⟩
  · refine k_iload f153_4 rfl ?_
    refine k_aload f153_5 rfl ?_
    refine k_getr (q := 62) f153_6 hS.o51 rfl hR.r51_25 ?_
    refine k_iconst (v := 0) f153_9 rfl ?_
    refine k_ia (k := 0) (w := w) f153_10 hS.a62 rfl (by decide) (by decide) hw ?_
    refine k_ic_ge f153_11 (fun g1 => ?_) (fun g1 => ?_)
    · refine k_iconst (v := 0) f153_18 rfl ?_
      exact k_iret f153_19 (by decide) ⟨bI_f fun h => h.2 g1, rfl⟩
    · refine k_iconst (v := 1) f153_14 rfl ?_
      refine k_goto f153_15 ?_
      exact k_iret f153_19 (by decide) ⟨bI_t ⟨g0, g1⟩, rfl⟩
theorem s_isCoin {x : Nat × (Nat → Int32)} {d : Nat} {I : Nat → Nat → Int32} {J : Nat → Nat → Int64} {R : Nat → Nat → Option Nat} {G : zG} {v w : Int32} (hR : Rs R) (hS : Sh G) (hw : I 62 1 = w) : zRn x d 154 [.ref 51, .int (v)] (I, J, R, G) (some (.int (bI (¬ v < 0 ∧ ¬ w ≤ v)))) (I, J, R, G) := by
  show zOk x d 154 0 [.ref 51, .int (v)] [] _ _
  refine k_iload f154_0 rfl ?_
  refine k_if_lt f154_1 (fun g0 => ?_) (fun g0 => ?_)
  · refine k_iconst (v := 0) f154_18 rfl ?_
    exact k_iret f154_19 (by decide) ⟨bI_f fun h => h.1 g0, rfl⟩
  · refine k_iload f154_4 rfl ?_
    refine k_aload f154_5 rfl ?_
    refine k_getr (q := 62) f154_6 hS.o51 rfl hR.r51_25 ?_
    refine k_iconst (v := 1) f154_9 rfl ?_
    refine k_ia (k := 1) (w := w) f154_10 hS.a62 rfl (by decide) (by decide) hw ?_
    refine k_ic_ge f154_11 (fun g1 => ?_) (fun g1 => ?_)
    · refine k_iconst (v := 0) f154_18 rfl ?_
      exact k_iret f154_19 (by decide) ⟨bI_f fun h => h.2 g1, rfl⟩
    · refine k_iconst (v := 1) f154_14 rfl ?_
      refine k_goto f154_15 ?_
      exact k_iret f154_19 (by decide) ⟨bI_t ⟨g0, g1⟩, rfl⟩
theorem s_isRule {x : Nat × (Nat → Int32)} {d : Nat} {I : Nat → Nat → Int32} {J : Nat → Nat → Int64} {R : Nat → Nat → Option Nat} {G : zG} {v w : Int32} (hS : Sh G) (hw : I 51 2 = w) : zRn x d 148 [.ref 51, .int (v)] (I, J, R, G) (some (.int (bI (¬ v < 0 ∧ ¬ w ≤ v)))) (I, J, R, G) := by
  show zOk x d 148 0 [.ref 51, .int (v)] [] _ _
  refine k_iload f148_0 rfl ?_
  refine k_if_lt f148_1 (fun g0 => ?_) (fun g0 => ?_)
  · refine k_iconst (v := 0) f148_16 rfl ?_
    exact k_iret f148_17 (by decide) ⟨bI_f fun h => h.1 g0, rfl⟩
  · refine k_iload f148_4 rfl ?_
    refine k_aload f148_5 rfl ?_
    refine k_gI (w := w) f148_6 hS.o51 rfl hw ?_
    refine k_ic_ge f148_9 (fun g1 => ?_) (fun g1 => ?_)
    · refine k_iconst (v := 0) f148_16 rfl ?_
      exact k_iret f148_17 (by decide) ⟨bI_f fun h => h.2 g1, rfl⟩
    · refine k_iconst (v := 1) f148_12 rfl ?_
      refine k_goto f148_13 ?_
      exact k_iret f148_17 (by decide) ⟨bI_t ⟨g0, g1⟩, rfl⟩
theorem s_inL {x : Nat × (Nat → Int32)} {d : Nat} {I : Nat → Nat → Int32} {J : Nat → Nat → Int64} {R : Nat → Nat → Option Nat} {G : zG} {v lo hi : Int64} : zRn x d 110 [.long (v), .long (lo), .long (hi)] (I, J, R, G) (some (.int (bI (¬ v < lo ∧ ¬ hi < v)))) (I, J, R, G) := by
  show zOk x d 110 0 [.long (v), zU, .long (lo), zU, .long (hi), zU] [] _ _
  refine k_lload f110_0 rfl ?_
  refine k_lload f110_1 rfl ?_
  refine k_lcmp f110_2 ?_
  refine k_if_lt f110_3 (fun g0 => ?_) (fun g0 => ?_)
  · refine k_iconst (v := 0) f110_17 rfl ?_
    exact k_iret f110_18 (by decide) ⟨bI_f fun h => h.1 ((lg_lt _ _).mp g0), rfl⟩
  · refine k_lload f110_6 rfl ?_
    refine k_lload f110_7 rfl ?_
    refine k_lcmp f110_9 ?_
    refine k_if_gt f110_10 (fun g1 => ?_) (fun g1 => ?_)
    · refine k_iconst (v := 0) f110_17 rfl ?_
      exact k_iret f110_18 (by decide) ⟨bI_f fun h => h.2 ((lg_gt _ _).mp g1), rfl⟩
    · refine k_iconst (v := 1) f110_13 rfl ?_
      refine k_goto f110_14 ?_
      exact k_iret f110_18 (by decide) ⟨bI_t ⟨fun q => g0 ((lg_lt _ _).mpr q), fun q => g1 ((lg_gt _ _).mpr q)⟩, rfl⟩
theorem s_in {x : Nat × (Nat → Int32)} {d : Nat} {m : zM} {v : Int32} {lo hi : Int64} (l h : Int32) (hl : l.toInt64 = lo) (hh : h.toInt64 = hi) : zRn x d 110 [.long (v.toInt64), .long (lo), .long (hi)] m (some (.int (bI (¬ v < l ∧ ¬ h < v)))) m := by
  obtain ⟨I, J, R, G⟩ := m
  subst hl; subst hh
  have e : bI (¬ v.toInt64 < l.toInt64 ∧ ¬ h.toInt64 < v.toInt64) = bI (¬ v < l ∧ ¬ h < v) := by
    unfold bI
    simp only [i64_lt]
  rw [← e]
  exact s_inL
theorem s_coinOf {x : Nat × (Nat → Int32)} {d : Nat} {I : Nat → Nat → Int32} {J : Nat → Nat → Int64} {R : Nat → Nat → Option Nat} {G : zG} {c k : Nat} {v : Int32} (hR : Rs R) (hS : Sh G) (hb : 8 + 6 * c + k < 139) (hv : I 62 (8 + 6 * c + k) = v) : zRn x d 155 [.ref 51, .int (nI c), .int (nI k)] (I, J, R, G) (some (.int (v))) (I, J, R, G) := by
  show zOk x d 155 0 [.ref 51, .int (nI c), .int (nI k)] [] _ _
  refine k_aload f155_0 rfl ?_
  refine k_getr (q := 62) f155_1 hS.o51 rfl hR.r51_25 ?_
  refine k_iconst (v := 8) f155_4 rfl ?_
  refine k_iconst (v := 6) f155_6 rfl ?_
  refine k_iload f155_8 rfl ?_
  refine k_imul f155_9 ?_
  refine k_iadd f155_10 ?_
  refine k_iload f155_11 rfl ?_
  refine k_iadd f155_12 ?_
  refine k_ia (k := 8 + 6 * c + k) (w := v) f155_13 hS.a62 (ix_c c k) hb (by decide) hv ?_
  exact k_iret f155_14 rfl ⟨rfl, rfl⟩
theorem s_meetOf {x : Nat × (Nat → Int32)} {d : Nat} {I : Nat → Nat → Int32} {J : Nat → Nat → Int64} {R : Nat → Nat → Option Nat} {G : zG} {c k : Nat} {v : Int32} (hR : Rs R) (hS : Sh G) (hb : 56 + 3 * c + k < 139) (hv : I 62 (56 + 3 * c + k) = v) : zRn x d 156 [.ref 51, .int (nI c), .int (nI k)] (I, J, R, G) (some (.int (v))) (I, J, R, G) := by
  show zOk x d 156 0 [.ref 51, .int (nI c), .int (nI k)] [] _ _
  refine k_aload f156_0 rfl ?_
  refine k_getr (q := 62) f156_1 hS.o51 rfl hR.r51_25 ?_
  refine k_iconst (v := 56) f156_4 rfl ?_
  refine k_iconst (v := 3) f156_6 rfl ?_
  refine k_iload f156_7 rfl ?_
  refine k_imul f156_8 ?_
  refine k_iadd f156_9 ?_
  refine k_iload f156_10 rfl ?_
  refine k_iadd f156_11 ?_
  refine k_ia (k := 56 + 3 * c + k) (w := v) f156_12 hS.a62 (ix_m c k) hb (by decide) hv ?_
  exact k_iret f156_13 rfl ⟨rfl, rfl⟩
