/-! A COIN goes to another, or is stamped anew: the class. -/
theorem bI_v1 {P : Prop} [Decidable P] (h : P) : bI P = 1 := by rw [bI, if_pos h]
theorem bI_v0 {P : Prop} [Decidable P] (h : ¬ P) : bI P = 0 := by rw [bI, if_neg h]
theorem s_goTo {x : Nat × (Nat → Int32)} {d : Nat} {I : Nat → Nat → Int32} {J : Nat → Nat → Int64} {R : Nat → Nat → Option Nat} {G : zG} {q h p : Nat} (hq : zo G q 1) (h3 : I q 3 = nI h) (hh : h < 1024) (hp : p < 10) : zRn x (d + 1) 12 [.ref q, .int (nI p)] (I, J, R, G) (none) (z_u (z_u (z_u I q 4 (bI (¬ h.testBit p = true))) q 3 ((nI h) ||| ((1) <<< ((nI p) &&& 31)))) q 1 (nI p), J, R, G) := by
  show zOk x (d + 1) 12 0 [.ref q, .int (nI p)] [] _ _
  refine k_aload f12_0 rfl ?_
  refine k_aload f12_1 rfl ?_
  refine k_gI (w := nI h) f12_2 hq rfl h3 ?_
  refine k_iload f12_5 rfl ?_
  refine e_s (as := [.int (nI p), .int (nI h)]) (rest := [.ref q]) f12_6 rfl rfl rfl (s_has (b := h) (p := p) (by omega) (by omega)) ?_
  refine k_bne f12_9 (fun g0 => ?_) (fun g0 => ?_)
  · refine k_iconst (v := 0) f12_16 rfl ?_
    refine k_putZ f12_17 hq rfl (Or.inl rfl) ?_
    refine k_aload f12_20 rfl ?_
    refine k_dup f12_21 ?_
    refine k_gI (w := nI h) f12_22 hq rfl (Eq.trans (z_u_k _ _ _ (by decide)) h3) ?_
    refine k_iconst (v := 1) f12_25 rfl ?_
    refine k_iload f12_26 rfl ?_
    refine k_ishl f12_27 ?_
    refine k_ior f12_28 ?_
    refine k_putI f12_29 hq rfl ?_
    refine k_aload f12_32 rfl ?_
    refine k_iload f12_33 rfl ?_
    refine k_putI f12_34 hq rfl ?_
    exact k_vret f12_37 ⟨rfl, by rw [bI_v0 (fun k => k g0)]⟩
  · refine k_iconst (v := 1) f12_12 rfl ?_
    refine k_goto f12_13 ?_
    refine k_putZ f12_17 hq rfl (Or.inr rfl) ?_
    refine k_aload f12_20 rfl ?_
    refine k_dup f12_21 ?_
    refine k_gI (w := nI h) f12_22 hq rfl (Eq.trans (z_u_k _ _ _ (by decide)) h3) ?_
    refine k_iconst (v := 1) f12_25 rfl ?_
    refine k_iload f12_26 rfl ?_
    refine k_ishl f12_27 ?_
    refine k_ior f12_28 ?_
    refine k_putI f12_29 hq rfl ?_
    refine k_aload f12_32 rfl ?_
    refine k_iload f12_33 rfl ?_
    refine k_putI f12_34 hq rfl ?_
    exact k_vret f12_37 ⟨rfl, by rw [bI_v1 g0]⟩
theorem s_stampAnew {x : Nat × (Nat → Int32)} {d : Nat} {I : Nat → Nat → Int32} {J : Nat → Nat → Int64} {R : Nat → Nat → Option Nat} {G : zG} {q : Nat} {dy ho : Int32} (hq : zo G q 1) (h1 : I q 1 = ho) : zRn x d 11 [.ref q, .int (dy)] (I, J, R, G) (none) (z_u (z_u (z_u I q 2 dy) q 3 ((1) <<< ((ho) &&& 31))) q 4 0, J, R, G) := by
  show zOk x d 11 0 [.ref q, .int (dy)] [] _ _
  refine k_aload f11_0 rfl ?_
  refine k_iload f11_1 rfl ?_
  refine k_putI f11_2 hq rfl ?_
  refine k_aload f11_5 rfl ?_
  refine k_iconst (v := 1) f11_6 rfl ?_
  refine k_aload f11_7 rfl ?_
  refine k_gI (w := ho) f11_8 hq rfl (Eq.trans (z_u_k _ _ _ (by decide)) h1) ?_
  refine k_ishl f11_11 ?_
  refine k_putI f11_12 hq rfl ?_
  refine k_aload f11_15 rfl ?_
  refine k_iconst (v := 0) f11_16 rfl ?_
  refine k_putZ f11_17 hq rfl (Or.inl rfl) ?_
  exact k_vret f11_20 ⟨rfl, rfl⟩
