/-! A RULE that was read means the same on both sides; what stays. -/
theorem tk_s : ∀ (l : List Cls) (i : Nat), i < l.length → l.take (i + 1) = l.take i ++ [l.getD i cN] := by
  intro l
  induction l with
  | nil => intro i h; exact absurd h (Nat.not_lt_zero _)
  | cons a l ih =>
    intro i h
    cases i with
    | zero => rfl
    | succ i =>
      show a :: l.take (i + 1) = a :: (l.take i ++ [l.getD i cN])
      rw [ih i (Nat.lt_of_succ_lt_succ h)]
theorem catC_2 {a c : List Cls} : catC (a ++ c) = catC a ++ catC c := by simp [catC]
theorem catD_2 {a c : List Cls} : catD (a ++ c) = catD a ++ catD c := by simp [catD]
theorem gM : ∀ (l : List Cls) (i : Nat), i < l.length → l.getD i cN ∈ l := by
  intro l
  induction l with
  | nil => intro i h; exact absurd h (Nat.not_lt_zero _)
  | cons a l ih =>
    intro i h
    cases i with
    | zero => exact List.mem_cons_self ..
    | succ i => exact List.mem_cons_of_mem _ (ih i (Nat.lt_of_succ_lt_succ h))
theorem ru_new {I : Nat → Nat → Int32} {t a b c : Nat} {l : List Cls} (hD : RwD I t l) (hO : ∀ c ∈ l, ClO c) (h400 : (catD l).length ≤ 400) (ha : ∀ i, i < (catC l).length → I a i = eC ((catC l).getD i (0, 0))) (hk : ∀ i, i < l.length → I b i = nI (l.getD i cN).1 ∧ I c i = nI (catC (l.take (i + 1))).length) : RuV I t a b c (catC l).length l.length := by
  obtain ⟨d1, d2, d3, d4⟩ := hD
  refine ⟨d1, fun i => (catC (l.take i)).length, rfl, fun i hi => ?_⟩
  obtain ⟨k1, k2⟩ := hk i hi
  obtain ⟨x1, x2, x3⟩ := d4 i hi
  have e := tk_s l i hi
  obtain ⟨o1, o2, nn, ma, p, k, q, hB⟩ := hO _ (gM l i hi)
  have eC1 : catC (l.take (i + 1)) = catC (l.take i) ++ (l.getD i cN).2.2 := by rw [e, catC_a]
  have eD1 : catD (l.take (i + 1)) = catD (l.take i) ++ (l.getD i cN).2.1 := by rw [e, catD_a]
  have sC : catC l = catC (l.take (i + 1)) ++ catC (l.drop (i + 1)) := by rw [← catC_2, List.take_append_drop]
  have sD : catD l = catD (l.take (i + 1)) ++ catD (l.drop (i + 1)) := by rw [← catD_2, List.take_append_drop]
  have lC : (catC (l.take (i + 1))).length = (catC (l.take i)).length + (l.getD i cN).2.2.length := by rw [eC1, List.length_append]
  have lD : (catD (l.take (i + 1))).length = (catD (l.take i)).length + (l.getD i cN).2.1.length := by rw [eD1, List.length_append]
  have nC : (catC l).length = (catC (l.take (i + 1))).length + (catC (l.drop (i + 1))).length := by rw [← List.length_append, ← sC]
  have nD : (catD l).length = (catD (l.take (i + 1))).length + (catD (l.drop (i + 1))).length := by rw [← List.length_append, ← sD]
  refine ⟨?_, ?_, k2, (l.getD i cN).1 - 1, (catD (l.take i)).length, (catD (l.take (i + 1))).length, by omega, by omega, by omega, ?_, x1, x2, x3, ?_⟩
  · show (catC (l.take i)).length ≤ (catC (l.take (i + 1))).length
    omega
  · show (catC (l.take (i + 1))).length ≤ (catC l).length
    omega
  · rw [show (l.getD i cN).1 - 1 + 1 = (l.getD i cN).1 by omega]
    exact k1
  · show ClE (I a) (catC (l.take i)).length (catC (l.take (i + 1))).length (fun j => I 53 (400 * t + j)) (catD (l.take i)).length (catD (l.take (i + 1))).length
    rw [lC, lD]
    refine cle_of (z := ((l.getD i cN).2.1, (l.getD i cN).2.2, k, q)) hB (fun j hj => ?_) (fun j hj => ?_)
    · have hj : j < (l.getD i cN).2.2.length := hj
      rw [ha _ (by omega), sC, getD_l (by omega), eC1, getD_r]
    · have hj : j < (l.getD i cN).2.1.length := hj
      show I 53 (400 * t + ((catD (l.take i)).length + j)) = _
      rw [d3 _ (by omega), sD, getD_l (by omega), eD1, getD_r]
theorem SOk.more {s : Nat → Int32} {rn rm : Nat} (h : SOk s rn) (hr : rn ≤ rm) : SOk s rm := by
  obtain ⟨h0, h1, h2, h3, h5, h6, h7, h8⟩ := h
  exact ⟨h0, h1, h2, h3, h5, h6.elim Or.inl (fun z => Or.inr (z.le hr)), h7, h8⟩
def rc1 (t p k : Nat) : Prop := (9 ≤ p ∧ p ≤ 15) ∨ p = 51 ∨ p = 52 ∨ p = 54 ∨ p = 59 ∨ (p = 0 ∧ k = 4) ∨ (p = 53 ∧ 400 * t ≤ k ∧ k < 400 * t + 400) ∨ (p = 55 ∧ 36 * t ≤ k ∧ k < 36 * t + 36) ∨ (p = 56 ∧ k = t)
theorem inv_rule {j t t2 : Nat} {I I' : Nat → Nat → Int32} {J J' : Nat → Nat → Int64} {R R' : Nat → Nat → Option Nat} {G G' : zG} (h : Inv j (I, J, R, G)) (et : cl (I 0 4) = t) (hn : G'.2.2.1 ≤ 71 + 20 * (j + 1)) (ht : G'.2.2.2 ≤ 6106 + 1000 * (j + 1)) (hg : Gk G G') (hi : ∀ p k, p < G.2.2.1 → ¬ rc1 t p k → I' p k = I p k) (hr : ∀ p k, p < G.2.2.1 → ¬ (p = 16 ∧ k = t) → R' p k = R p k) (hp : TpV I') (e04 : I' 0 4 = nI t2) (e51 : I' 51 2 = nI t2) (h6 : t2 ≤ 6) (h2 : t2 = t ∨ (t2 = t + 1 ∧ ∃ r, R' 16 t = some r ∧ RuR I' R' G' t r)) : Inv (j + 1) (I', J', R', G') := by
  obtain ⟨a1, a2, a3, a4, a5, ⟨b1, b2, b3⟩, ⟨pl, a6⟩, a7, a8, a9⟩ := h
  have n70 : 71 ≤ G.2.2.1 := a1.2
  have t2t : t ≤ t2 := by rcases h2 with e | e <;> omega
  have c2 : cl (I' 0 4) = t2 := by rw [e04, cl_nI (by omega)]
  have ebig : ∀ p k, p < G.2.2.1 → 71 ≤ p → I' p k = I p k := fun p k hp h71 => hi p k hp (by unfold rc1; omega)
  have rbig : ∀ p k, p < G.2.2.1 → 71 ≤ p → R' p k = R p k := fun p k hp h71 => hr p k hp (by omega)
  have erow : ∀ p k, p = 62 ∨ p = 69 ∨ p = 70 → I' p k = I p k := fun p k hp => hi p k (by omega) (by unfold rc1; omega)
  have e37 : ∀ k, R' 37 k = R 37 k := fun k => hr 37 k (by omega) (by omega)
  have e62 : I' 62 = I 62 := funext fun k => erow 62 k (by omega)
  have a7' : SOk (I 62) t := by rw [← et]; exact a7
  have hRs : Rs R' := by
    intro q hq
    have a : q.1 < 71 ∧ ¬ q.1 = 16 := by
      have u : rsL.all (fun q => decide (q.1 < 71 ∧ ¬ q.1 = 16)) = true := by decide +kernel
      simpa only [decide_eq_true_eq] using List.all_eq_true.mp u q hq
    rw [hr _ _ (by omega) (fun z => a.2 z.1)]
    exact a2 q hq
  refine ⟨a1.keep hg, hRs, hn, ht, hp, ⟨by show Rg (I' 0 4) 7; rw [e04]; exact Rg.of (by omega) (by omega), e51.trans e04.symm, ?_⟩, ⟨pl, ?_⟩, ?_, fun k hk => ?_, ?_⟩
  · intro u hu
    have hu : u < t2 := by rw [← c2]; exact hu
    by_cases e : u = t
    · subst e
      rcases h2 with e | e
      · omega
      · exact e.2
    · have hut : u < t := by rcases h2 with e | e <;> omega
      obtain ⟨r, r1, r2⟩ := b3 u (by show u < cl (I 0 4); omega)
      have e53 : ∀ k, k < 400 → I' 53 (400 * u + k) = I 53 (400 * u + k) := fun k hk => hi 53 _ (by omega) (by unfold rc1; omega)
      refine ⟨r, (hr 16 u (by omega) (by omega)).trans r1, r2.keep hg ebig rbig e53 (fun k hk => hi 55 _ (by omega) (by unfold rc1; omega)) (hi 56 _ (by omega) (by unfold rc1; omega)) fun w f v q hv hf => ruD_congr _ _ _ fun k hk => e53 _ (by omega)⟩
  · show StR I' R' G' 17 pl (I' 62)
    rw [e62]
    have hpl := a6.2.2.1.1
    exact a6.keep (Nat.le_of_lt_succ a7.2.1.2) hg (fun p k hp hq => hi p k hp (by unfold rc1; omega)) (fun p k hp hq => hr p k hp (by omega))
  · show SOk (I' 62) (cl (I' 0 4))
    rw [e62, c2]
    exact a7'.more t2t
  · show ImN I' R' k ∨ ImY I' R' G' (cl (I' 0 4)) k
    rw [c2]
    rcases a8 k hk with hN | ⟨y1, st, pl, y2, y3, y4, y5⟩
    · exact Or.inl ⟨(erow 70 k (by omega)).trans hN.1, (e37 k).trans hN.2⟩
    · have y5 : SOk (imS I k) (cl (I 0 4)) := y5
      have ei : imS I' k = imS I k := funext fun i => erow 69 _ (by omega)
      refine Or.inr ⟨(erow 70 k (by omega)).trans y1, st, pl, (e37 k).trans y2, y3, ?_, ?_⟩
      · rw [ei]
        have hpl := y4.2.2.1.1
        exact y4.keep (Nat.le_of_lt_succ y5.2.1.2) hg (fun p k hp hq => hi p k hp (by unfold rc1; omega)) (fun p k hp hq => hr p k hp (by omega))
      · rw [ei]
        exact y5.more (by omega)
  · intro k l st su hk hl hne e1 e2
    exact a9 k l st su hk hl hne ((e37 k).symm.trans e1) ((e37 l).symm.trans e2)
theorem rdR_ok {b : Nat → Nat} {n : Nat} : ∀ (f q : Nat) (s s' : RTt), q ≤ n → rsO s → s.2.2 ≤ q → rdG (clR b n) b n f s q = .inr s' → rsO s' ∧ s'.2.2 ≤ n := by
  intro f
  induction f with
  | zero => intro q s s' hq ho hl h; cases h; exact ⟨ho, by omega⟩
  | succ f ih =>
    intro q s s' hq ho hl h
    rw [rdG_s] at h
    cases hc : clR b n s q with
    | inl e => rw [bdS_l hc] at h; cases h
    | inr z =>
      rw [bdS_r hc] at h
      obtain ⟨k1, k2, k3, k4⟩ := clR_ok hq ho hl hc
      have q2 := bk_le (b := b) k3
      have q3 := ed_le (b := b) q2.2
      have q4 := bk_le (b := b) q3.2
      split at h
      · exact ih _ _ _ q4.2 k1 (by omega) h
      · split at h
        · cases h; exact ⟨k1, by omega⟩
        · cases h
