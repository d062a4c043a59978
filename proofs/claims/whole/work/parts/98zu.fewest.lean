/-! THE FEWEST payments: both sides alike. -/
def mnN (x y : Nat) : Nat := if y < x then y else x
def fwS (w1 w2 a b : Nat) (z : (Nat → Nat) × Nat) : (Nat → Nat) × Nat :=
  let y := if w1 = 1 then (upN z.1 b (mnN (z.1 b) (z.1 a + 1)), z.2) else if w1 = 2 then (z.1, mnN z.2 (z.1 a + 1)) else z
  if w2 = 1 then (upN y.1 a (mnN (y.1 a) (z.1 b + 1)), y.2) else if w2 = 2 then (y.1, mnN y.2 (z.1 b + 1)) else y
def fwL (w1 w2 : Nat → Nat) (s : Nat → Int32) : List Nat → (Nat → Nat) × Nat → (Nat → Nat) × Nat
  | [], z => z
  | j :: l, z => fwL w1 w2 s l (fwS (w1 j) (w2 j) (mA s j) (mB s j) z)
/-- 1000 in the class is what 1000000 is in the reference -/
def far (v : Nat) : Nat := if v = 1000000 then 1000 else v
def PRz (z : Nat × (Nat → Nat) × Int32 × Nat) (y : (Nat → Nat) × Nat) : Prop := (∀ p, p < 10 → y.1 p = far (z.2.1 p)) ∧ y.2 = far z.2.2.2
def FI (K : Nat) (z : Nat × (Nat → Nat) × Int32 × Nat) : Prop := z.2.2.2 = 1000000 ∨ z.2.2.2 ≤ K
theorem far_mn {u pd K : Nat} (hu : u = 1000000 ∨ u ≤ K + 1) (hp : pd = 1000000 ∨ pd ≤ K) (hK : K + 1 < 1000) : mnN (far u) (far pd + 1) = far (if pd = 1000000 then u else if u ≤ pd + 1 then u else pd + 1) := by
  unfold mnN far
  by_cases p : pd = 1000000
  · rw [if_pos p, if_pos p]
    by_cases q : u = 1000000
    · rw [if_pos q, if_neg (by omega)]
    · rw [if_neg q, if_neg (by omega)]
  · rw [if_neg p, if_neg p]
    by_cases q : u = 1000000
    · rw [if_pos q, if_pos (by omega), if_neg (by omega : ¬ u ≤ pd + 1), if_neg (by omega)]
    · rw [if_neg q]
      by_cases r : u ≤ pd + 1
      · rw [if_neg (by omega), if_pos r, if_neg q]
      · rw [if_pos (by omega), if_neg r, if_neg (by omega)]
theorem go_pb {v b pd : Nat} {th : Int32} {z : Nat × (Nat → Nat) × Int32 × Nat} (q : Nat) : (goS v b th pd z).2.1 q = if v = 1 ∧ q = b then (if pd = 1000000 then z.2.1 b else if z.2.1 b ≤ pd + 1 then z.2.1 b else pd + 1) else z.2.1 q := by
  unfold goS
  by_cases p : pd = 1000000
  · rw [if_pos p, if_pos p]
    by_cases e : v = 1 ∧ q = b
    · rw [if_pos e, e.2]
    · rw [if_neg e]
  · rw [if_neg p, if_neg p]
    by_cases h1 : v = 1
    · rw [if_pos h1]
      show upN z.2.1 b _ q = _
      unfold upN
      by_cases e : q = b
      · rw [if_pos e, if_pos (show v = 1 ∧ q = b from ⟨h1, e⟩)]
      · rw [if_neg e, if_neg (fun k => e k.2)]
    · rw [if_neg h1, if_neg (show ¬ (v = 1 ∧ q = b) from fun k => h1 k.1)]
      split <;> rfl
theorem go_fp {v b pd : Nat} {th : Int32} {z : Nat × (Nat → Nat) × Int32 × Nat} : (goS v b th pd z).2.2.2 = if v = 2 then (if pd = 1000000 then z.2.2.2 else if z.2.2.2 ≤ pd + 1 then z.2.2.2 else pd + 1) else z.2.2.2 := by
  unfold goS
  by_cases p : pd = 1000000
  · rw [if_pos p, if_pos p]
    split <;> rfl
  · rw [if_neg p, if_neg p]
    by_cases h1 : v = 1
    · rw [if_pos h1, if_neg (show ¬ v = 2 by omega)]
    · rw [if_neg h1]
      by_cases h2 : v = 2
      · rw [if_pos h2, if_pos h2]
      · rw [if_neg h2, if_neg h2]
theorem se_pr {h K a b v1 v2 w1 w2 : Nat} {th : Int32} {z : Nat × (Nat → Nat) × Int32 × Nat} {y : (Nat → Nat) × Nat} (hz : ZI h K z) (hf : FI K z) (hp : PRz z y) (hK : K + 1 < 1000) (ha : a < 10) (hb : b < 10) (hab : a ≠ b) (e1 : z.1.testBit a = true → w1 = v1) (e2 : z.1.testBit b = true → w2 = v2) :
    PRz (goS v2 a th (z.2.1 b) (goS v1 b th (z.2.1 a) z)) (fwS w1 w2 a b y) ∧ FI (K + 1) (goS v2 a th (z.2.1 b) (goS v1 b th (z.2.1 a) z)) := by
  have pa : z.2.1 a = 1000000 ∨ z.2.1 a ≤ K := hz.2.2.1 a ha
  have pb : z.2.1 b = 1000000 ∨ z.2.1 b ≤ K := hz.2.2.1 b hb
  have na : ¬ z.2.1 a = 1000000 → w1 = v1 := fun q => e1 (Classical.byContradiction fun k => q ((hz.2.1 a ha).mpr k))
  have nb : ¬ z.2.1 b = 1000000 → w2 = v2 := fun q => e2 (Classical.byContradiction fun k => q ((hz.2.1 b hb).mpr k))
  have w4 : ∀ q, q < 10 → z.2.1 q = 1000000 ∨ z.2.1 q ≤ K + 1 := fun q hq => (hz.2.2.1 q hq).elim Or.inl fun k => Or.inr (by omega)
  have w5 : z.2.2.2 = 1000000 ∨ z.2.2.2 ≤ K + 1 := hf.elim Or.inl fun k => Or.inr (by omega)
  -- the first half
  obtain ⟨z1, ez1⟩ : ∃ z1, z1 = goS v1 b th (z.2.1 a) z := ⟨_, rfl⟩
  obtain ⟨y1, ey1⟩ : ∃ y1, y1 = (if w1 = 1 then (upN y.1 b (mnN (y.1 b) (y.1 a + 1)), y.2) else if w1 = 2 then (y.1, mnN y.2 (y.1 a + 1)) else y) := ⟨_, rfl⟩
  have key : ∀ (u pd w v : Nat), (u = 1000000 ∨ u ≤ K + 1) → (pd = 1000000 ∨ pd ≤ K) → (¬ pd = 1000000 → w = v) → ∀ n : Nat, (if w = n then mnN (far u) (far pd + 1) else far u) = far (if v = n then (if pd = 1000000 then u else if u ≤ pd + 1 then u else pd + 1) else u) := by
    intro u pd w v hu hpd hw n
    by_cases p : pd = 1000000
    · rw [far_mn hu hpd hK, if_pos p]
      split <;> split <;> rfl
    · rw [hw p, far_mn hu hpd hK]
      split <;> rfl
  have F1 : (∀ q, q < 10 → y1.1 q = far (z1.2.1 q)) ∧ y1.2 = far z1.2.2.2 := by
    refine ⟨fun q hq => ?_, ?_⟩
    · rw [ez1, go_pb]
      have k := key (z.2.1 b) (z.2.1 a) w1 v1 (w4 b hb) pa na 1
      by_cases e : q = b
      · subst e
        have : (if v1 = 1 ∧ q = q then (if z.2.1 a = 1000000 then z.2.1 q else if z.2.1 q ≤ z.2.1 a + 1 then z.2.1 q else z.2.1 a + 1) else z.2.1 q) = (if v1 = 1 then (if z.2.1 a = 1000000 then z.2.1 q else if z.2.1 q ≤ z.2.1 a + 1 then z.2.1 q else z.2.1 a + 1) else z.2.1 q) := by simp
        rw [this, ← k, ey1, ← hp.1 q hq, ← hp.1 a ha]
        by_cases c : w1 = 1
        · rw [if_pos c, if_pos c]; exact if_pos rfl
        · rw [if_neg c, if_neg c]
          split <;> rfl
      · rw [if_neg (fun k => e k.2), ey1, ← hp.1 q hq]
        by_cases c : w1 = 1
        · rw [if_pos c]; exact if_neg e
        · rw [if_neg c]
          split <;> rfl
    · rw [ez1, go_fp]
      have k := key z.2.2.2 (z.2.1 a) w1 v1 w5 pa na 2
      rw [← k, ey1, ← hp.2, ← hp.1 a ha]
      by_cases c : w1 = 1
      · rw [if_pos c, if_neg (by omega)]
      · rw [if_neg c]
        split <;> rfl
  have w6 : z1.2.1 a = 1000000 ∨ z1.2.1 a ≤ K + 1 := by
    rw [ez1, go_pb, if_neg (fun k => hab k.2)]
    exact w4 a ha
  have w7 : z1.2.2.2 = 1000000 ∨ z1.2.2.2 ≤ K + 1 := by
    rw [ez1, go_fp]
    split
    · split
      · exact w5
      · split
        · exact w5
        · exact Or.inr (by omega)
    · exact w5
  rw [← ez1]
  have eS : fwS w1 w2 a b y = if w2 = 1 then (upN y1.1 a (mnN (y1.1 a) (y.1 b + 1)), y1.2) else if w2 = 2 then (y1.1, mnN y1.2 (y.1 b + 1)) else y1 := by
    rw [ey1]
    rfl
  rw [eS]
  refine ⟨⟨fun q hq => ?_, ?_⟩, ?_⟩
  · rw [go_pb]
    have k := key (z1.2.1 a) (z.2.1 b) w2 v2 w6 pb nb 1
    by_cases e : q = a
    · subst e
      have : (if v2 = 1 ∧ q = q then (if z.2.1 b = 1000000 then z1.2.1 q else if z1.2.1 q ≤ z.2.1 b + 1 then z1.2.1 q else z.2.1 b + 1) else z1.2.1 q) = (if v2 = 1 then (if z.2.1 b = 1000000 then z1.2.1 q else if z1.2.1 q ≤ z.2.1 b + 1 then z1.2.1 q else z.2.1 b + 1) else z1.2.1 q) := by simp
      rw [this, ← k, ← F1.1 q hq, ← hp.1 b hb]
      by_cases c : w2 = 1
      · rw [if_pos c, if_pos c]; exact if_pos rfl
      · rw [if_neg c, if_neg c]
        split <;> rfl
    · rw [if_neg (show ¬ (v2 = 1 ∧ q = a) from fun k => e k.2), ← F1.1 q hq]
      by_cases c : w2 = 1
      · rw [if_pos c]; exact if_neg e
      · rw [if_neg c]
        split <;> rfl
  · rw [go_fp]
    have k := key z1.2.2.2 (z.2.1 b) w2 v2 w7 pb nb 2
    rw [← k, ← F1.2, ← hp.1 b hb]
    by_cases c : w2 = 1
    · rw [if_pos c, if_neg (by omega)]
    · rw [if_neg c]
      split <;> rfl
  · unfold FI
    rw [go_fp]
    split
    · split
      · exact w7
      · split
        · exact w7
        · exact Or.inr (by omega)
    · exact w7
