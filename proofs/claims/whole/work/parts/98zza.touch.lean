/-! STRANGERS: a set that touches all. -/
def tch : List Nat → Nat → Bool
  | [], _ => true
  | t :: T, k => decide (¬ t &&& k = 0) && tch T k
theorem tch_0 {t k : Nat} {T : List Nat} (h : t &&& k = 0) : ¬ tch (t :: T) k = true := by
  unfold tch
  simp [h]
theorem tch_1 {t k : Nat} {T : List Nat} (h : ¬ t &&& k = 0) : tch (t :: T) k = tch T k := by
  show (decide (¬ t &&& k = 0) && tch T k) = tch T k
  rw [decide_eq_true h, Bool.true_and]
theorem and_0 {t k : Nat} (hk : k < 1024) : nI (t &&& k) = 0 ↔ t &&& k = 0 := by
  have := Nat.and_le_right (n := t) (m := k)
  exact nI_eq (b := 0) (by omega) (by omega)
theorem lp_touch {x : Nat × (Nat → Int32)} {d : Nat} {I : Nat → Nat → Int32} {J : Nat → Nat → Int64} {R : Nat → Nat → Option Nat} {G : zG} {k c : Nat} (hR : Rs R) (hS : Sh G) (hk : k < 1024) (hc : c ≤ 8) : ∀ (T : List Nat) (i : Nat), i + T.length = c → (∀ j, j < T.length → I 49 (i + j) = nI (T.getD j 0)) → zOk x d 106 2 [.ref 0, .int (nI k), .int (nI c), .int (nI i)] [] (I, J, R, G) (fun v m => v = some (.int (bI (tch T k = true))) ∧ m = (I, J, R, G)) := by
  intro T
  induction T with
  | nil =>
    intro i hi hT
    have hi : i = c := hi
    refine k_iload f106_2 rfl ?_
    refine k_iload f106_3 rfl ?_
    refine k_ic_ge f106_4 (fun _ => ?_) (fun h_ => absurd (nI_le (by omega) (by omega)) h_)
    refine k_iconst (v := 1) f106_35 rfl ?_
    exact k_iret f106_36 (by decide) ⟨bI_t rfl, rfl⟩
  | cons t T ih =>
    intro i hi hT
    have hi2 : i + (T.length + 1) = c := hi
    have et : I 49 i = nI t := hT 0 (Nat.succ_pos _)
    by_cases h0 : t &&& k = 0
    · refine k_iload f106_2 rfl ?_
      refine k_iload f106_3 rfl ?_
      refine k_ic_ge f106_4 (fun h_ => absurd h_ (nI_ge (by omega) (by omega))) (fun _ => ?_)
      refine k_iload f106_7 rfl ?_
      refine k_aload f106_8 rfl ?_
      refine k_getr (q := 49) f106_9 hS.o0 rfl hR.r0_13 ?_
      refine k_alen (v := nI 8) f106_12 hS.a49 rfl rfl ?_
      refine k_ic_ge f106_13 (fun h_ => absurd h_ (nI_ge (b := 8) (by omega) (by omega))) (fun _ => ?_)
      refine k_aload f106_16 rfl ?_
      refine k_getr (q := 49) f106_17 hS.o0 rfl hR.r0_13 ?_
      refine k_iload f106_20 rfl ?_
      refine k_ia (k := i) (w := nI t) f106_21 hS.a49 rfl (by omega) (by decide) et ?_
      refine k_iload f106_22 rfl ?_
      refine k_iand f106_23 ?_
      rw [nI_and]
      refine k_if_ne f106_24 (fun h_ => absurd ((and_0 hk).mpr h0) h_) (fun _ => ?_)
      refine k_iconst (v := 0) f106_27 rfl ?_
      exact k_iret f106_28 (by decide) ⟨bI_f (tch_0 h0), rfl⟩
    · refine k_iload f106_2 rfl ?_
      refine k_iload f106_3 rfl ?_
      refine k_ic_ge f106_4 (fun h_ => absurd h_ (nI_ge (by omega) (by omega))) (fun _ => ?_)
      refine k_iload f106_7 rfl ?_
      refine k_aload f106_8 rfl ?_
      refine k_getr (q := 49) f106_9 hS.o0 rfl hR.r0_13 ?_
      refine k_alen (v := nI 8) f106_12 hS.a49 rfl rfl ?_
      refine k_ic_ge f106_13 (fun h_ => absurd h_ (nI_ge (b := 8) (by omega) (by omega))) (fun _ => ?_)
      refine k_aload f106_16 rfl ?_
      refine k_getr (q := 49) f106_17 hS.o0 rfl hR.r0_13 ?_
      refine k_iload f106_20 rfl ?_
      refine k_ia (k := i) (w := nI t) f106_21 hS.a49 rfl (by omega) (by decide) et ?_
      refine k_iload f106_22 rfl ?_
      refine k_iand f106_23 ?_
      rw [nI_and]
      refine k_if_ne f106_24 (fun _ => ?_) (fun h_ => absurd ((fun q => h0 ((and_0 hk).mp q))) h_)
      refine k_iinc (w := nI (i + 1)) (L' := [.ref 0, .int (nI k), .int (nI c), .int (nI (i + 1))]) f106_29 rfl (nI_1 i) rfl rfl ?_
      refine k_goto f106_32 ?_
      rw [tch_1 h0]
      exact ih (i + 1) (by omega) (fun j hj => by have := hT (j + 1) (Nat.succ_lt_succ hj); rw [show i + 1 + j = i + (j + 1) by omega]; exact this)
theorem s_touch {x : Nat × (Nat → Int32)} {d : Nat} {I : Nat → Nat → Int32} {J : Nat → Nat → Int64} {R : Nat → Nat → Option Nat} {G : zG} {k : Nat} {L : List Nat} (hR : Rs R) (hS : Sh G) (hk : k < 1024) (hc : L.length ≤ 8) (hL : RwL I 49 L) : zRn x d 106 [.ref 0, .int (nI k), .int (nI L.length)] (I, J, R, G) (some (.int (bI (tch L k = true)))) (I, J, R, G) := by
  show zOk x d 106 0 [.ref 0, .int (nI k), .int (nI L.length), zU] [] _ _
  refine k_iconst (v := 0) f106_0 rfl ?_
  refine k_istore (L' := [.ref 0, .int (nI k), .int (nI L.length), .int (0)]) f106_1 rfl rfl ?_
  exact lp_touch hR hS hk hc L 0 (by omega) (fun j hj => by rw [Nat.zero_add]; exact hL j hj)
theorem lp_is {x : Nat × (Nat → Int32)} {d : Nat} {I : Nat → Nat → Int32} {J : Nat → Nat → Int64} {R : Nat → Nat → Option Nat} {G : zG} {k c : Nat} {be : Int32} {Q : Option Value → zM → Prop} (hR : Rs R) (hS : Sh G) (hk : k < 1024) (hc : c ≤ 8) : ∀ (T : List Nat) (i : Nat), i + T.length = c → (∀ j, j < T.length → I 66 (i + j) = nI (T.getD j 0)) → (∀ u5, zOk x d 191 145 [.ref 51, .int (nI c), .int (be), .int (nI k), .int (bI (tch T k = true)), u5] [] (I, J, R, G) Q) → zOk x d 191 109 [.ref 51, .int (nI c), .int (be), .int (nI k), .int (1), .int (nI i)] [] (I, J, R, G) Q := by
  intro T
  induction T with
  | nil =>
    intro i hi hT hq
    have hi : i = c := hi
    refine k_iload f191_109 rfl ?_
    refine k_iload f191_111 rfl ?_
    refine k_ic_ge f191_112 (fun _ => ?_) (fun h_ => absurd (nI_le (by omega) (by omega)) h_)
    have e := hq (.int (nI i))
    rw [bI_v1 (show tch [] k = true from rfl)] at e
    exact e
  | cons t T ih =>
    intro i hi hT hq
    have hi2 : i + (T.length + 1) = c := hi
    have et : I 66 i = nI t := hT 0 (Nat.succ_pos _)
    by_cases h0 : t &&& k = 0
    · refine k_iload f191_109 rfl ?_
      refine k_iload f191_111 rfl ?_
      refine k_ic_ge f191_112 (fun h_ => absurd h_ (nI_ge (by omega) (by omega))) (fun _ => ?_)
      refine k_iload f191_115 rfl ?_
      refine k_if_eq f191_117 (fun h_ => absurd h_ (by decide)) (fun _ => ?_)
      refine k_aload f191_120 rfl ?_
      refine k_getr (q := 66) f191_121 hS.o51 rfl hR.r51_34 ?_
      refine k_iload f191_124 rfl ?_
      refine k_ia (k := i) (w := nI t) f191_126 hS.a66 rfl (by omega) (by decide) et ?_
      refine k_iload f191_127 rfl ?_
      refine k_iand f191_128 ?_
      rw [nI_and]
      refine k_if_eq f191_129 (fun _ => ?_) (fun h_ => absurd ((and_0 hk).mpr h0) h_)
      refine k_iconst (v := 0) f191_136 rfl ?_
      refine k_istore (L' := [.ref 51, .int (nI c), .int (be), .int (nI k), .int (0), .int (nI i)]) f191_137 rfl rfl ?_
      refine k_iinc (w := nI (i + 1)) (L' := [.ref 51, .int (nI c), .int (be), .int (nI k), .int (0), .int (nI (i + 1))]) f191_139 rfl (nI_1 i) rfl rfl ?_
      refine k_goto f191_142 ?_
      have e := fun u => hq u
      rw [bI_v0 (tch_0 h0)] at e
      by_cases hz : c ≤ i + 1
      · refine k_iload f191_109 rfl ?_
        refine k_iload f191_111 rfl ?_
        refine k_ic_ge f191_112 (fun _ => ?_) (fun h_ => absurd (nI_le hz (by omega)) h_)
        exact e _
      · refine k_iload f191_109 rfl ?_
        refine k_iload f191_111 rfl ?_
        refine k_ic_ge f191_112 (fun h_ => absurd h_ (nI_ge (by omega) (by omega))) (fun _ => ?_)
        refine k_iload f191_115 rfl ?_
        refine k_if_eq f191_117 (fun _ => ?_) (fun h_ => absurd (by decide) h_)
        exact e _
    · refine k_iload f191_109 rfl ?_
      refine k_iload f191_111 rfl ?_
      refine k_ic_ge f191_112 (fun h_ => absurd h_ (nI_ge (by omega) (by omega))) (fun _ => ?_)
      refine k_iload f191_115 rfl ?_
      refine k_if_eq f191_117 (fun h_ => absurd h_ (by decide)) (fun _ => ?_)
      refine k_aload f191_120 rfl ?_
      refine k_getr (q := 66) f191_121 hS.o51 rfl hR.r51_34 ?_
      refine k_iload f191_124 rfl ?_
      refine k_ia (k := i) (w := nI t) f191_126 hS.a66 rfl (by omega) (by decide) et ?_
      refine k_iload f191_127 rfl ?_
      refine k_iand f191_128 ?_
      rw [nI_and]
      refine k_if_eq f191_129 (fun h_ => absurd h_ ((fun q => h0 ((and_0 hk).mp q)))) (fun _ => ?_)
      refine k_iconst (v := 1) f191_132 rfl ?_
      refine k_goto f191_133 ?_
      refine k_istore (L' := [.ref 51, .int (nI c), .int (be), .int (nI k), .int (1), .int (nI i)]) f191_137 rfl rfl ?_
      refine k_iinc (w := nI (i + 1)) (L' := [.ref 51, .int (nI c), .int (be), .int (nI k), .int (1), .int (nI (i + 1))]) f191_139 rfl (nI_1 i) rfl rfl ?_
      refine k_goto f191_142 ?_
      rw [tch_1 h0] at hq
      exact ih (i + 1) (by omega) (fun j hj => by have := hT (j + 1) (Nat.succ_lt_succ hj); rw [show i + 1 + j = i + (j + 1) by omega]; exact this) hq
