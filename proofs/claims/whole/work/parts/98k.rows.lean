/-! A COIN PAID and a COIN BROUGHT HOME, as rows. -/
theorem sub_le {a b y : Nat} (ha : a < 2 ^ 30) (hb : b < 2 ^ 30) (hy : y < 2 ^ 30) : nI a - nI b ≤ nI y ↔ a ≤ y + b := by
  rw [Int32.le_iff_toInt_le, pk_sub_toInt ha hb, nI_toInt (by omega)]
  omega
def payR (s : Nat → Int32) (c p : Nat) : Nat → Int32 := fun i => if i = 8 + 6 * c + 1 then nI p else if i = 8 + 6 * c + 4 then bI (¬ (cl (s (8 + 6 * c + 3))).testBit p = true) else if i = 8 + 6 * c + 3 then (nI (cl (s (8 + 6 * c + 3)))) ||| ((1) <<< ((nI p) &&& 31)) else s i
def homR (s : Nat → Int32) (c : Nat) : Nat → Int32 := fun i => if i = 8 + 6 * c + 2 then s 3 else if i = 8 + 6 * c + 3 then (1) <<< ((s (8 + 6 * c + 1)) &&& 31) else if i = 8 + 6 * c + 4 then 0 else if i = 8 + 6 * c + 5 then (s (8 + 6 * c + 5)) + (1) else if i = 4 then (s 4) + (1) else s i
theorem payR_o (s : Nat → Int32) {c p i : Nat} (h : i < 8 + 6 * c ∨ 14 + 6 * c ≤ i ∨ i = 8 + 6 * c ∨ i = 8 + 6 * c + 2 ∨ i = 8 + 6 * c + 5) : payR s c p i = s i := by
  unfold payR
  rw [if_neg (by omega), if_neg (by omega), if_neg (by omega)]
theorem payR_1 (s : Nat → Int32) (c p : Nat) : payR s c p (8 + 6 * c + 1) = nI p := by unfold payR; rw [if_pos rfl]
theorem payR_4 (s : Nat → Int32) (c p : Nat) : payR s c p (8 + 6 * c + 4) = bI (¬ (cl (s (8 + 6 * c + 3))).testBit p = true) := by unfold payR; rw [if_neg (by omega), if_pos rfl]
theorem payR_3 (s : Nat → Int32) (c : Nat) {p : Nat} (hp : p < 10) : payR s c p (8 + 6 * c + 3) = nI (cl (s (8 + 6 * c + 3)) ||| 2 ^ p) := by
  unfold payR
  rw [if_neg (by omega), if_neg (by omega), if_pos rfl, sh_1 p (by omega), nI_or]
theorem homR_o (s : Nat → Int32) {c i : Nat} (h : i < 8 + 6 * c ∨ 14 + 6 * c ≤ i ∨ i = 8 + 6 * c ∨ i = 8 + 6 * c + 1) (h4 : i ≠ 4) : homR s c i = s i := by
  unfold homR
  rw [if_neg (by omega), if_neg (by omega), if_neg (by omega), if_neg (by omega), if_neg (by omega)]
theorem homR_2 (s : Nat → Int32) (c : Nat) : homR s c (8 + 6 * c + 2) = s 3 := by unfold homR; rw [if_pos rfl]
theorem homR_3 (s : Nat → Int32) (c : Nat) : homR s c (8 + 6 * c + 3) = (1) <<< ((s (8 + 6 * c + 1)) &&& 31) := by unfold homR; rw [if_neg (by omega), if_pos rfl]
theorem homR_4 (s : Nat → Int32) (c : Nat) : homR s c (8 + 6 * c + 4) = 0 := by unfold homR; rw [if_neg (by omega), if_neg (by omega), if_pos rfl]
theorem homR_5 (s : Nat → Int32) (c : Nat) : homR s c (8 + 6 * c + 5) = (s (8 + 6 * c + 5)) + (1) := by unfold homR; rw [if_neg (by omega), if_neg (by omega), if_neg (by omega), if_pos rfl]
theorem payR_fu (s : Nat → Int32) (c p : Nat) : fu (fu (fu s (8 + 6 * c + 1) (nI p)) (8 + 6 * c + 4) (bI (¬ (cl (s (8 + 6 * c + 3))).testBit p = true))) (8 + 6 * c + 3) ((nI (cl (s (8 + 6 * c + 3)))) ||| ((1) <<< ((nI p) &&& 31))) = payR s c p := by
  funext i
  unfold payR fu
  by_cases h1 : i = 8 + 6 * c + 1
  · rw [if_neg (by omega), if_neg (by omega), if_pos h1, if_pos h1]
  · rw [if_neg h1, if_neg h1]
    by_cases h4 : i = 8 + 6 * c + 4
    · rw [if_neg (by omega), if_pos h4, if_pos h4]
    · rw [if_neg h4, if_neg h4]
theorem payR_fu2 (s : Nat → Int32) (c p : Nat) : fu (fu (fu s (8 + 6 * c + 4) (bI (¬ (cl (s (8 + 6 * c + 3))).testBit p = true))) (8 + 6 * c + 3) ((nI (cl (s (8 + 6 * c + 3)))) ||| ((1) <<< ((nI p) &&& 31)))) (8 + 6 * c + 1) (nI p) = payR s c p := by
  funext i
  unfold payR fu
  by_cases h1 : i = 8 + 6 * c + 1
  · rw [if_pos h1, if_pos h1]
  · rw [if_neg h1, if_neg h1]
    by_cases h4 : i = 8 + 6 * c + 4
    · rw [if_neg (by omega), if_pos h4, if_pos h4]
    · rw [if_neg h4, if_neg h4]
theorem homR_fu (s : Nat → Int32) (c : Nat) : fu (fu (fu (fu (fu s (8 + 6 * c + 2) (s 3)) (8 + 6 * c + 3) ((1) <<< ((s (8 + 6 * c + 1)) &&& 31))) (8 + 6 * c + 4) 0) (8 + 6 * c + 5) ((s (8 + 6 * c + 5)) + (1))) 4 ((s 4) + (1)) = homR s c := by
  funext i
  unfold homR fu
  by_cases h : i = 4
  · rw [if_pos h, if_neg (by omega), if_neg (by omega), if_neg (by omega), if_neg (by omega), if_pos h]
  · rw [if_neg h, if_neg h]
    by_cases h2 : i = 8 + 6 * c + 2
    · rw [if_neg (by omega), if_neg (by omega), if_neg (by omega), if_pos h2, if_pos h2]
    · rw [if_neg h2, if_neg h2]
      by_cases h3 : i = 8 + 6 * c + 3
      · rw [if_neg (by omega), if_neg (by omega), if_pos h3, if_pos h3]
      · rw [if_neg h3, if_neg h3]
        by_cases h4 : i = 8 + 6 * c + 4
        · rw [if_neg (by omega), if_pos h4, if_pos h4]
        · rw [if_neg h4, if_neg h4]
theorem StR.pay {I : Nat → Nat → Int32} {R : Nat → Nat → Option Nat} {G : zG} {st pl c p : Nat} {s : Nat → Int32} (h : StR I R G st pl s) (h8 : cl (s 1) ≤ 8) (hp : st + 10 ≤ pl ∨ pl + 8 ≤ st) (hm : cl (s 2) ≤ 25) (hc : c < 8) : StR (z_u (z_u (z_u I (st + 2 + c) 4 (bI (¬ (cl (s (8 + 6 * c + 3))).testBit p = true))) (st + 2 + c) 3 ((nI (cl (s (8 + 6 * c + 3)))) ||| ((1) <<< ((nI p) &&& 31)))) (st + 2 + c) 1 (nI p)) R G st pl (payR s c p) := by
  rw [← payR_fu2]
  have n : ∀ {i j : Nat} {s : Nat → Int32} {v : Int32}, j ≠ i → fu s i v j = s j := fun h => fu_no _ _ h
  refine StR.up _ (StR.up _ (StR.up _ h h8 (by omega) (by unfold plc; omega) hm) ?_ (by omega) (by unfold plc; omega) ?_) ?_ (by omega) (by unfold plc; omega) ?_
  · rw [n (by omega)]; exact h8
  · rw [n (by omega)]; exact hm
  · rw [n (by omega), n (by omega)]; exact h8
  · rw [n (by omega), n (by omega)]; exact hm
theorem StR.hom {I : Nat → Nat → Int32} {R : Nat → Nat → Option Nat} {G : zG} {st pl c : Nat} {s : Nat → Int32} (h : StR I R G st pl s) (h8 : cl (s 1) ≤ 8) (hp : st + 10 ≤ pl ∨ pl + 8 ≤ st) (hm : cl (s 2) ≤ 25) (hc : c < 8) : StR (z_u (z_u (z_u (z_u (z_u I (st + 2 + c) 2 (s 3)) (st + 2 + c) 3 ((1) <<< ((s (8 + 6 * c + 1)) &&& 31))) (st + 2 + c) 4 0) (st + 2 + c) 5 ((s (8 + 6 * c + 5)) + (1))) st 2 ((s 4) + (1))) R G st pl (homR s c) := by
  rw [← homR_fu]
  have n : ∀ {i j : Nat} {s : Nat → Int32} {v : Int32}, j ≠ i → fu s i v j = s j := fun h => fu_no _ _ h
  refine StR.up _ (StR.up _ (StR.up _ (StR.up _ (StR.up _ h h8 (by omega) (by unfold plc; omega) hm) ?_ (by omega) (by unfold plc; omega) ?_) ?_ (by omega) (by unfold plc; omega) ?_) ?_ (by omega) (by unfold plc; omega) ?_) ?_ (by omega) (by unfold plc; omega) ?_
  · rw [n (by omega)]; exact h8
  · rw [n (by omega)]; exact hm
  · rw [n (by omega), n (by omega)]; exact h8
  · rw [n (by omega), n (by omega)]; exact hm
  · rw [n (by omega), n (by omega), n (by omega)]; exact h8
  · rw [n (by omega), n (by omega), n (by omega)]; exact hm
  · rw [n (by omega), n (by omega), n (by omega), n (by omega)]; exact h8
  · rw [n (by omega), n (by omega), n (by omega), n (by omega)]; exact hm
/-- what a day needs of a row -/
def CoW (s : Nat → Int32) (c : Nat) : Prop := Rg (s (8 + 6 * c + 1)) (cl (s 0)) ∧ Rg (s (8 + 6 * c + 3)) 1024 ∧ Rg (s (8 + 6 * c + 4)) 2
def SW (s : Nat → Int32) : Prop := Rg (s 0) 11 ∧ Rg (s 1) 9 ∧ ∀ c, c < cl (s 1) → CoW s c
theorem rg_bI (P : Prop) [Decidable P] : Rg (bI P) 2 := by
  unfold bI
  split
  · exact Rg.of (n := 1) (by omega) (by omega)
  · exact Rg.of (n := 0) (by omega) (by omega)
theorem CoW.cg {s s' : Nat → Int32} {c : Nat} (h : CoW s c) (h0 : s' 0 = s 0) (hf : ∀ k, k < 6 → s' (8 + 6 * c + k) = s (8 + 6 * c + k)) : CoW s' c := by
  unfold CoW at h ⊢
  rw [h0, hf 1 (by omega), hf 3 (by omega), hf 4 (by omega)]
  exact h
theorem SW.pay {s : Nat → Int32} {c p : Nat} (h : SW s) (hc : c < cl (s 1)) (hp : p < cl (s 0)) : SW (payR s c p) := by
  obtain ⟨h0, h1, h2⟩ := h
  have b0 := h0.2
  have b1 := h1.2
  have e0 : payR s c p 0 = s 0 := payR_o s (by omega)
  have e1 : payR s c p 1 = s 1 := payR_o s (by omega)
  refine ⟨by rw [e0]; exact h0, by rw [e1]; exact h1, fun e he => ?_⟩
  rw [e1] at he
  by_cases q : e = c
  · subst q
    unfold CoW
    rw [e0, payR_1, payR_3 s e (by omega), payR_4]
    exact ⟨Rg.of hp (by omega), Rg.of (or_lt (h2 e he).2.1.2 (Nat.lt_of_lt_of_le (Nat.pow_lt_pow_right (by omega) (show p < 10 by omega)) (Nat.le_refl _))) (by omega), rg_bI _⟩
  · exact (h2 e he).cg e0 fun k hk => payR_o s (by omega)
theorem SW.hom {s : Nat → Int32} {c : Nat} (h : SW s) (hc : c < cl (s 1)) : SW (homR s c) := by
  obtain ⟨h0, h1, h2⟩ := h
  have b0 := h0.2
  have b1 := h1.2
  have e0 : homR s c 0 = s 0 := homR_o s (by omega) (by omega)
  have e1 : homR s c 1 = s 1 := homR_o s (by omega) (by omega)
  refine ⟨by rw [e0]; exact h0, by rw [e1]; exact h1, fun e he => ?_⟩
  rw [e1] at he
  by_cases q : e = c
  · subst q
    unfold CoW
    obtain ⟨g1, g2, g3⟩ := h2 e he
    obtain ⟨f1, f2, f3⟩ := sh_p g1 (by omega)
    rw [e0, homR_o s (by omega) (by omega), homR_3, homR_4, f1]
    exact ⟨g1, Rg.of f2 (by omega), Rg.of (n := 0) (by omega) (by omega)⟩
  · exact (h2 e he).cg e0 fun k hk => homR_o s (by omega) (by omega)
theorem SOk.sw {s : Nat → Int32} {rn : Nat} (h : SOk s rn) : SW s := ⟨h.1, h.2.1, fun c hc => let g := h.2.2.2.2.2.2.2.1 c hc; ⟨g.2.1, g.2.2.2.1, g.2.2.2.2.1⟩⟩
theorem SOk.pay {s : Nat → Int32} {rn c p : Nat} (h : SOk s rn) (hc : c < cl (s 1)) (hp : p < cl (s 0)) (hd : cl (s 3) ≤ 1999) : SOk (payR s c p) rn := by
  have b0 := h.1.2
  have b1 := h.2.1.2
  have n : ∀ i, i < 8 ∨ 56 ≤ i → payR s c p i = s i := fun i hi => payR_o s (by omega)
  refine h.congr (n _ (by omega)) (n _ (by omega)) (n _ (by omega)) (n _ (by omega)) (by rw [n _ (by omega)]; exact h.2.2.2.1) (by rw [n _ (by omega)]; exact h.2.2.2.2.1) (by rw [n _ (by omega)]; exact h.2.2.2.2.2.1) (fun e he => ?_) (fun i _ _ => n _ (by omega))
  have g := h.2.2.2.2.2.2.2.1 e he
  by_cases q : e = c
  · subst q
    have p2 : 2 ^ p < 1024 := Nat.lt_of_lt_of_le (Nat.pow_lt_pow_right (by omega) (show p < 10 by omega)) (Nat.le_refl _)
    unfold CoinOk at g ⊢
    rw [n 0 (by omega), n 3 (by omega), n (131 + e) (by omega), payR_o s (i := 8 + 6 * e) (by omega), payR_o s (i := 8 + 6 * e + 2) (by omega), payR_1, payR_3 s e (by omega), payR_4]
    obtain ⟨a1, a2, a3, a4, a5, a6, a7, a8, a9⟩ := g
    refine ⟨a1, Rg.of hp (by omega), a3, Rg.of (or_lt a4.2 p2) (by omega), rg_bI _, a6, a7, fun _ => by omega, ?_⟩
    rw [cl_nI (by have := or_lt a4.2 p2; omega), cl_nI (by omega)]
    exact or_bit.mpr (Or.inr rfl)
  · exact g.congr (n _ (by omega)) (fun k hk => payR_o s (by omega)) (n _ (by omega)) (by rw [n _ (by omega)]; exact Nat.le_refl _)
theorem SOk.hom {s : Nat → Int32} {rn c : Nat} (h : SOk s rn) (hc : c < cl (s 1)) (hv : s 3 - s (8 + 6 * c + 2) ≤ s 7) (hf : s (8 + 6 * c + 4) = 1) : SOk (homR s c) rn := by
  have b0 := h.1.2
  have b1 := h.2.1.2
  have n : ∀ i, (i < 8 ∨ 56 ≤ i) → i ≠ 4 → homR s c i = s i := fun i hi h4 => homR_o s (by omega) h4
  refine h.congr (n _ (by omega) (by omega)) (n _ (by omega) (by omega)) (n _ (by omega) (by omega)) (n _ (by omega) (by omega)) (by rw [n _ (by omega) (by omega)]; exact h.2.2.2.1) (by rw [n _ (by omega) (by omega)]; exact h.2.2.2.2.1) (by rw [n _ (by omega) (by omega)]; exact h.2.2.2.2.2.1) (fun e he => ?_) (fun i _ _ => n _ (by omega) (by omega))
  have g := h.2.2.2.2.2.2.2.1 e he
  by_cases q : e = c
  · subst q
    unfold CoinOk at g ⊢
    obtain ⟨a1, a2, a3, a4, a5, a6, a7, a8, a9⟩ := g
    obtain ⟨f1, f2, f3⟩ := sh_p a2 (by omega)
    have l3 := h.2.2.2.1
    have l7 := h.2.2.2.2.2.2.1
    have hd : cl (s 3) ≤ 2998 := by
      have hx := a8 hf
      rw [l3.1, a3.1, l7.1, sub_le (by have := l3.2; omega) (by omega) (by have := l7.2; omega)] at hv
      have := l7.2
      omega
    rw [n 0 (by omega) (by omega), n 3 (by omega) (by omega), n (131 + e) (by omega) (by omega), homR_o s (i := 8 + 6 * e) (by omega) (by omega), homR_o s (i := 8 + 6 * e + 1) (by omega) (by omega), homR_2, homR_3, homR_4, f1]
    refine ⟨a1, a2, ⟨l3.1, by omega⟩, Rg.of f2 (by omega), Rg.of (n := 0) (by omega) (by omega), a6, Or.inr (Nat.le_refl _), fun q => absurd q (by decide), ?_⟩
    rw [cl_nI (by omega)]
    simp
  · exact g.congr (n _ (by omega) (by omega)) (fun k hk => homR_o s (by omega) (by omega)) (n _ (by omega) (by omega)) (by rw [n _ (by omega) (by omega)]; exact Nat.le_refl _)
