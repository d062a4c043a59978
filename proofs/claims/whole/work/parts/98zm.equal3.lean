/-! THE SEARCH: both sides alike. -/
theorem good_mono {d1 d2 sp y : Int32} (h1 : Rg d1 2000) (h2 : Rg d2 2000) (hs : Rg sp 30000) (hy : Rg y 1000) (hle : d1 ≤ d2) (h : ¬ d1 - sp ≤ y) : ¬ d2 - sp ≤ y := by
  have a1 := h1.2
  have a2 := h2.2
  have a3 := hs.2
  have a4 := hy.2
  rw [h1.1, h2.1, nI_leI (by omega) (by omega)] at hle
  rw [h1.1, hs.1, hy.1, sub_le (by omega) (by omega) (by omega)] at h
  rw [h2.1, hs.1, hy.1, sub_le (by omega) (by omega) (by omega)]
  omega
theorem fdS_cg {w1 w2 v1 v2 a b r : Nat} (h1 : r.testBit a = true → w1 = v1) (h2 : r.testBit b = true → w2 = v2) : fdS w1 w2 a b r = fdS v1 v2 a b r := by
  unfold fdS
  have e1 : (r.testBit a = true ∧ w1 = 1) ↔ (r.testBit a = true ∧ v1 = 1) := ⟨fun k => ⟨k.1, (h1 k.1).symm.trans k.2⟩, fun k => ⟨k.1, (h1 k.1).trans k.2⟩⟩
  have e2 : (r.testBit b = true ∧ w2 = 1) ↔ (r.testBit b = true ∧ v2 = 1) := ⟨fun k => ⟨k.1, (h2 k.1).symm.trans k.2⟩, fun k => ⟨k.1, (h2 k.1).trans k.2⟩⟩
  simp only [e1, e2]
theorem rg_0le {v : Int32} {b : Nat} (h : Rg v b) (hb : b ≤ 2 ^ 31) : 0 ≤ v := by
  rw [h.1]
  have := h.2
  exact nI_pos' (by omega)
def MD (s : Nat → Int32) (m : Nat) : Prop := ∀ j, j < m → Rg (s (56 + 3 * j)) 2000 ∧ mA s j < 10 ∧ mB s j < 10
theorem se_fd {ba : (Nat → Int64) → Bool} {s : Nat → Int32} {n m : Nat} {nu wo sp fr : Int32} {h g : Nat} (hg : fr - sp ≤ s 7) (hm : MD s m) (hsp : Rg sp 30000) (h7 : Rg (s 7) 1000) : ∀ (l : List Nat) (K : Nat) (z : Nat × (Nat → Nat) × Int32 × Nat), (∀ j, j ∈ l → j < m) → l.Pairwise (fun a b => s (56 + 3 * a) ≤ s (56 + 3 * b)) → ZI h K z → K + l.length < 1000 → z.2.2.1 = -2 →
    (seL ba s n nu wo sp h (l.filter (elP s fr g)) z).2.2.1 = (fdL (fun j => wyV ba s n nu wo sp fr h (mA s j) (mB s j) (s (56 + 3 * j))) (fun j => wyV ba s n nu wo sp fr h (mB s j) (mA s j) (s (56 + 3 * j))) s g l z.1).1 ∧
    ((fdL (fun j => wyV ba s n nu wo sp fr h (mA s j) (mB s j) (s (56 + 3 * j))) (fun j => wyV ba s n nu wo sp fr h (mB s j) (mA s j) (s (56 + 3 * j))) s g l z.1).1 = -2 → (seL ba s n nu wo sp h (l.filter (elP s fr g)) z).1 = (fdL (fun j => wyV ba s n nu wo sp fr h (mA s j) (mB s j) (s (56 + 3 * j))) (fun j => wyV ba s n nu wo sp fr h (mB s j) (mA s j) (s (56 + 3 * j))) s g l z.1).2) := by
  intro l
  induction l with
  | nil => intro K z _ _ _ _ hd; exact ⟨hd, fun _ => rfl⟩
  | cons j l ih =>
    intro K z hl hp hz hK hd
    have hjm := hl j List.mem_cons_self
    have hl2 : ∀ k, k ∈ l → k < m := fun k hk => hl k (List.mem_cons_of_mem _ hk)
    have hp1 := (List.pairwise_cons.mp hp).1
    have hp2 := (List.pairwise_cons.mp hp).2
    have hK2 : K + (l.length + 1) < 1000 := hK
    obtain ⟨rd, la, lb⟩ := hm j hjm
    rw [fdL]
    by_cases e : elP s fr g j = true
    · have e1 : ¬ s (56 + 3 * j) < fr := fun q => elP_0 (Or.inl q) e
      have e2 : ¬ g.testBit j = true := fun q => elP_0 (Or.inr q) e
      rw [List.filter_cons_of_pos e, if_neg e2]
      by_cases gd : s (56 + 3 * j) - sp ≤ s 7
      · have hth := rg_0le rd (by omega)
        have q1 : ∀ a b, z.1.testBit a = true → wyV ba s n nu wo sp fr h a b (s (56 + 3 * j)) = sv ba s n nu wo sp h a b (s (56 + 3 * j)) := by
          intro a b ra
          unfold wyV stV
          rw [if_pos ⟨hg, e1, gd⟩, if_pos (hz.2.2.2 a ra)]
        obtain ⟨s1, s2, s3⟩ := se_step (v1 := sv ba s n nu wo sp h (mA s j) (mB s j) (s (56 + 3 * j))) (v2 := sv ba s n nu wo sp h (mB s j) (mA s j) (s (56 + 3 * j))) hz hd (by omega) la lb sv_1 sv_1 sv_le sv_le hth
        rw [show seL ba s n nu wo sp h (j :: l.filter (elP s fr g)) z = seL ba s n nu wo sp h (l.filter (elP s fr g)) (seS ba s n nu wo sp h j z) from if_pos gd]
        by_cases hh : (z.1.testBit (mA s j) = true ∧ sv ba s n nu wo sp h (mA s j) (mB s j) (s (56 + 3 * j)) = 2) ∨ (z.1.testBit (mB s j) = true ∧ sv ba s n nu wo sp h (mB s j) (mA s j) (s (56 + 3 * j)) = 2)
        · have hh2 : (z.1.testBit (mA s j) = true ∧ wyV ba s n nu wo sp fr h (mA s j) (mB s j) (s (56 + 3 * j)) = 2) ∨ (z.1.testBit (mB s j) = true ∧ wyV ba s n nu wo sp fr h (mB s j) (mA s j) (s (56 + 3 * j)) = 2) := hh.elim (fun k => Or.inl ⟨k.1, (q1 _ _ k.1).trans k.2⟩) (fun k => Or.inr ⟨k.1, (q1 _ _ k.1).trans k.2⟩)
          rw [if_pos hh2]
          have d1 : (seS ba s n nu wo sp h j z).2.2.1 = s (56 + 3 * j) := s2 hh
          refine ⟨by rw [se_dh (by rw [d1]; exact hth), d1], fun k => ?_⟩
          have k : s (56 + 3 * j) = -2 := k
          rw [k] at hth
          exact absurd hth (by decide)
        · have hh2 : ¬ ((z.1.testBit (mA s j) = true ∧ wyV ba s n nu wo sp fr h (mA s j) (mB s j) (s (56 + 3 * j)) = 2) ∨ (z.1.testBit (mB s j) = true ∧ wyV ba s n nu wo sp fr h (mB s j) (mA s j) (s (56 + 3 * j)) = 2)) := fun k => hh (k.elim (fun k => Or.inl ⟨k.1, (q1 _ _ k.1).symm.trans k.2⟩) (fun k => Or.inr ⟨k.1, (q1 _ _ k.1).symm.trans k.2⟩))
          rw [if_neg hh2, fdS_cg (q1 (mA s j) (mB s j)) (q1 (mB s j) (mA s j))]
          obtain ⟨t1, t2⟩ := s3 hh
          have t2 : (seS ba s n nu wo sp h j z).1 = fdS (sv ba s n nu wo sp h (mA s j) (mB s j) (s (56 + 3 * j))) (sv ba s n nu wo sp h (mB s j) (mA s j) (s (56 + 3 * j))) (mA s j) (mB s j) z.1 := t2
          rw [← t2]
          exact ih (K + 1) (seS ba s n nu wo sp h j z) hl2 hp2 s1 (by omega) t1
      · rw [show seL ba s n nu wo sp h (j :: l.filter (elP s fr g)) z = z from if_neg gd]
        have w0 : ∀ k, k ∈ j :: l → ∀ a b, wyV ba s n nu wo sp fr h a b (s (56 + 3 * k)) = 0 := by
          intro k hk a b
          unfold wyV
          refine if_neg fun q => ?_
          rcases List.mem_cons.mp hk with e | e
          · subst e; exact gd q.2.2
          · exact good_mono rd (hm k (hl2 k e)).1 hsp h7 (hp1 k e) gd q.2.2
        have z0 := fdL_0 (w1 := fun j => wyV ba s n nu wo sp fr h (mA s j) (mB s j) (s (56 + 3 * j))) (w2 := fun j => wyV ba s n nu wo sp fr h (mB s j) (mA s j) (s (56 + 3 * j))) (s := s) (g := g) (l := l) (r := fdS 0 0 (mA s j) (mB s j) z.1) (fun k hk => ⟨w0 k (List.mem_cons_of_mem _ hk) _ _, w0 k (List.mem_cons_of_mem _ hk) _ _⟩)
        have f0 : fdS 0 0 (mA s j) (mB s j) z.1 = z.1 := by
          unfold fdS
          rw [if_neg (by omega), if_neg (by omega)]
        rw [w0 j List.mem_cons_self, w0 j List.mem_cons_self, if_neg (by omega), z0, f0]
        exact ⟨hd, fun _ => rfl⟩
    · rw [List.filter_cons_of_neg e]
      by_cases e2 : g.testBit j = true
      · rw [if_pos e2]
        exact ih K z hl2 hp2 hz (by omega) hd
      · have e1 : s (56 + 3 * j) < fr := Classical.byContradiction fun q => e (elP_1 q e2)
        have w0 : ∀ a b, wyV ba s n nu wo sp fr h a b (s (56 + 3 * j)) = 0 := fun a b => if_neg fun q => q.2.1 e1
        have f0 : fdS 0 0 (mA s j) (mB s j) z.1 = z.1 := by
          unfold fdS
          rw [if_neg (by omega), if_neg (by omega)]
        rw [if_neg e2, w0, w0, if_neg (by omega), f0]
        exact ih K z hl2 hp2 hz (by omega) hd
/-- the day home and who could have it -/
theorem SE_FD {ba : (Nat → Int64) → Bool} {s : Nat → Int32} {n m : Nat} {nu wo sp fr fe : Int32} {p h g : Nat} (hm : MD s m) (hm24 : m ≤ 24) (hsp : Rg sp 30000) (h7 : Rg (s 7) 1000) (hfr : Rg fr 30000) (hp : p < 10) (hh : h < 1024) (hhp : h.testBit p = true) :
    (SE ba s n m nu wo sp fr fe p h g).2.2.1 = (FD ba s n m nu wo sp fr fe p h g).1 ∧ ((FD ba s n m nu wo sp fr fe p h g).1 = -2 → (SE ba s n m nu wo sp fr fe p h g).1 = (FD ba s n m nu wo sp fr fe p h g).2) := by
  have hfd : FDc ba s n m nu wo sp fr h g p = fdL (fun j => wyV ba s n nu wo sp fr h (mA s j) (mB s j) (s (56 + 3 * j))) (fun j => wyV ba s n nu wo sp fr h (mB s j) (mA s j) (s (56 + 3 * j))) s g (ordL (fun i => s (56 + 3 * i)) m).reverse (2 ^ p) := by
    unfold FDc
    have := fdC_L (w1 := fun j => wyV ba s n nu wo sp fr h (mA s j) (mB s j) (s (56 + 3 * j))) (w2 := fun j => wyV ba s n nu wo sp fr h (mB s j) (mA s j) (s (56 + 3 * j))) (s := s) (g := g) (m := m) m 0 (2 ^ p) (by omega)
    exact this
  have hf0 := rg_0le hfr (by omega)
  by_cases gd : fr - sp ≤ s 7
  · unfold SE FD
    rw [if_pos gd]
    by_cases hb : hoB ba s n nu wo sp fr fe p h = true
    · rw [if_pos hb, if_pos hb]
      refine ⟨se_dh (z := se1 p fr) hf0, fun k => ?_⟩
      have k : fr = -2 := k
      rw [k] at hf0
      exact absurd hf0 (by decide)
    · rw [if_neg hb, if_neg hb, hfd, frL_eq, ← List.filter_reverse]
      refine se_fd gd hm hsp h7 (ordL (fun i => s (56 + 3 * i)) m).reverse 0 (se0 p) (fun j hj => ordL_mem (List.mem_reverse.mp hj)) (List.pairwise_reverse.mpr (ordL_srt m)) ⟨Nat.lt_of_lt_of_le (Nat.pow_lt_pow_right (by omega) hp) (Nat.le_refl _), fun q hq => ?_, fun q hq => ?_, fun q hq => ?_⟩ (by rw [List.length_reverse, ordL_len]; omega) rfl
      · show pb0 p q = 1000000 ↔ ¬ (2 ^ p).testBit q = true
        rw [Nat.testBit_two_pow]
        unfold pb0
        by_cases e : q = p
        · subst e; simp
        · rw [if_neg e]; simp; omega
      · show pb0 p q = 1000000 ∨ pb0 p q ≤ 0
        unfold pb0
        split
        · exact Or.inr (Nat.le_refl _)
        · exact Or.inl rfl
      · have hq : (2 ^ p).testBit q = true := hq
        rw [Nat.testBit_two_pow] at hq
        have : p = q := by simpa using hq
        rw [← this]; exact hhp
  · have hb : ¬ hoB ba s n nu wo sp fr fe p h = true := fun k => gd (hoB_iff.mp k).1
    unfold SE FD
    have w0 : ∀ a b th, wyV ba s n nu wo sp fr h a b th = 0 := fun a b th => if_neg fun k => gd k.1
    rw [if_neg gd, if_neg hb, hfd, fdL_0 (fun j _ => ⟨w0 _ _ _, w0 _ _ _⟩)]
    exact ⟨rfl, fun _ => rfl⟩
