/-! RINGS: nobody beyond the town. -/
def AB (P : Nat) (g : Nat → Nat) : Prop := ∀ p q, (g p).testBit q = true → q < P
theorem AB.h {P a b : Nat} {g : Nat → Nat} (h : AB P g) (hb : b < P) : AB P (ajH a b g) := by
  intro p q hq
  unfold ajH upN at hq
  by_cases e : p = a
  · rw [if_pos e] at hq
    rcases or_bit.mp hq with k | k
    · exact h a q k
    · omega
  · rw [if_neg e] at hq
    exact h p q hq
theorem AB.fo {P m : Nat} {s : Nat → Int32} (hm : ∀ j, j < m → mA s j < P ∧ mB s j < P) : ∀ (f i : Nat) (g : Nat → Nat), i + f ≤ m → AB P g → AB P (foL (ajS s) i f g) := by
  intro f
  induction f with
  | zero => intro i g _ h; exact h
  | succ f ih =>
    intro i g hi h
    rw [foL_s]
    obtain ⟨a, b⟩ := hm i (by omega)
    exact ih (i + 1) _ (by omega) ((h.h b).h a)
theorem foL_cut {α : Type} {F : Nat → α → α} {P : Nat} (h : ∀ i z, P ≤ i → F i z = z) : ∀ (f i : Nat) (z : α), P ≤ i + f → ∀ N, f ≤ N → foL F i N z = foL F i f z := by
  intro f
  induction f with
  | zero =>
    intro i z hi N _
    have : ∀ N i z, P ≤ i → foL F i N z = z := by
      intro N
      induction N with
      | zero => intro i z _; rfl
      | succ N ihN =>
        intro i z hi
        rw [foL_s, h i z hi]
        exact ihN (i + 1) z (by omega)
    exact this N i z (by omega)
  | succ f ih =>
    intro i z hi N hN
    obtain ⟨M, rfl⟩ : ∃ M, N = M + 1 := ⟨N - 1, by omega⟩
    rw [foL_s, foL_s]
    exact ih (i + 1) (F i z) (by omega) M (by omega)
theorem rnd_cut {g : Nat → Nat} {P st l a seen : Nat} (h : AB P g) (hP : P ≤ 10) : rnd g st (l + 1) a seen = foL (fun q t => if (g a).testBit q = true ∧ ¬ seen.testBit q = true then t + rnd g st l q (seen ||| 2 ^ q) else t) 0 P 0 := by
  rw [rnd_s]
  refine foL_cut (P := P) (fun i z hi => if_neg fun q => ?_) P 0 0 (by omega) 10 hP
  have := h a i q.1
  omega
