/-! ONE STEP of the search: both sides alike. -/
def ZI (h K : Nat) (z : Nat × (Nat → Nat) × Int32 × Nat) : Prop := z.1 < 1024 ∧ (∀ p, p < 10 → (z.2.1 p = 1000000 ↔ ¬ z.1.testBit p = true)) ∧ (∀ p, p < 10 → z.2.1 p = 1000000 ∨ z.2.1 p ≤ K) ∧ ∀ p, z.1.testBit p = true → h.testBit p = true
theorem ZI.le {h K K' : Nat} {z : Nat × (Nat → Nat) × Int32 × Nat} (w : ZI h K z) (hk : K ≤ K') : ZI h K' z := ⟨w.1, w.2.1, fun p hp => (w.2.2.1 p hp).elim Or.inl fun q => Or.inr (by omega), w.2.2.2⟩
theorem go_nv {v b pd : Nat} {th : Int32} {z : Nat × (Nat → Nat) × Int32 × Nat} (h : pd = 1000000) : goS v b th pd z = z := if_pos h
theorem go_0 {b pd : Nat} {th : Int32} {z : Nat × (Nat → Nat) × Int32 × Nat} : goS 0 b th pd z = z := by
  unfold goS
  rw [if_neg (by omega : ¬ (0 : Nat) = 1), if_neg (by omega : ¬ (0 : Nat) = 2)]
  split <;> rfl
theorem go_1 {b pd : Nat} {th : Int32} {z : Nat × (Nat → Nat) × Int32 × Nat} (h : ¬ pd = 1000000) : goS 1 b th pd z = (z.1 ||| 2 ^ b, upN z.2.1 b (if z.2.1 b ≤ pd + 1 then z.2.1 b else pd + 1), z.2.2) := by
  unfold goS
  rw [if_neg h, if_pos rfl]
theorem go_2 {b pd : Nat} {th : Int32} {z : Nat × (Nat → Nat) × Int32 × Nat} (h : ¬ pd = 1000000) : goS 2 b th pd z = (z.1, z.2.1, if 0 ≤ z.2.2.1 then z.2.2.1 else th, if z.2.2.2 ≤ pd + 1 then z.2.2.2 else pd + 1) := by
  unfold goS
  rw [if_neg h, if_neg (by omega), if_pos rfl]
theorem go_zi {h K v b pd : Nat} {th : Int32} {z : Nat × (Nat → Nat) × Int32 × Nat} (hz : ZI h (K + 1) z) (hpd : pd = 1000000 ∨ pd ≤ K) (hK : K + 1 < 1000000) (hb : b < 10) (hv : v = 1 → h.testBit b = true) (hv2 : v ≤ 2) : ZI h (K + 1) (goS v b th pd z) := by
  by_cases q : pd = 1000000
  · rw [go_nv q]; exact hz
  · have hpd : pd ≤ K := hpd.resolve_left q
    have : v = 0 ∨ v = 1 ∨ v = 2 := by omega
    rcases this with rfl | rfl | rfl
    · rw [go_0]; exact hz
    · rw [go_1 q]
      have ht : ∀ p, (z.1 ||| 2 ^ b).testBit p = true ↔ z.1.testBit p = true ∨ b = p := fun p => or_bit
      have hn : (if z.2.1 b ≤ pd + 1 then z.2.1 b else pd + 1) ≤ K + 1 := by split <;> omega
      refine ⟨or_lt hz.1 (Nat.lt_of_lt_of_le (Nat.pow_lt_pow_right (by omega) hb) (Nat.le_refl _)), fun p hp => ?_, fun p hp => ?_, fun p hp => ?_⟩
      · show upN z.2.1 b _ p = 1000000 ↔ ¬ (z.1 ||| 2 ^ b).testBit p = true
        rw [ht]
        unfold upN
        by_cases e : p = b
        · subst e
          rw [if_pos rfl]
          refine ⟨fun k => ?_, fun k => absurd (Or.inr rfl) k⟩
          omega
        · rw [if_neg e]
          refine ⟨fun k g => g.elim ((hz.2.1 p hp).mp k) fun e2 => e e2.symm, fun k => (hz.2.1 p hp).mpr fun g => k (Or.inl g)⟩
      · show upN z.2.1 b _ p = 1000000 ∨ upN z.2.1 b _ p ≤ K + 1
        unfold upN
        by_cases e : p = b
        · rw [if_pos e]; exact Or.inr hn
        · rw [if_neg e]; exact hz.2.2.1 p hp
      · rcases (ht p).mp hp with k | k
        · exact hz.2.2.2 p k
        · subst k; exact hv rfl
    · rw [go_2 q]; exact hz
theorem go_dh {v b pd : Nat} {th : Int32} {z : Nat × (Nat → Nat) × Int32 × Nat} (hd : 0 ≤ z.2.2.1) : (goS v b th pd z).2.2.1 = z.2.2.1 := by
  unfold goS
  split
  · rfl
  · split
    · rfl
    · split
      · simp only [hd, if_true]
      · rfl
theorem se_dh {ba : (Nat → Int64) → Bool} {s : Nat → Int32} {n : Nat} {nu wo sp : Int32} {h : Nat} : ∀ {l : List Nat} {z : Nat × (Nat → Nat) × Int32 × Nat}, 0 ≤ z.2.2.1 → (seL ba s n nu wo sp h l z).2.2.1 = z.2.2.1 := by
  intro l
  induction l with
  | nil => intro z _; rfl
  | cons j l ih =>
    intro z hd
    unfold seL
    split
    · have e1 : (goS (sv ba s n nu wo sp h (mA s j) (mB s j) (s (56 + 3 * j))) (mB s j) (s (56 + 3 * j)) (z.2.1 (mA s j)) z).2.2.1 = z.2.2.1 := go_dh hd
      have e2 : (seS ba s n nu wo sp h j z).2.2.1 = z.2.2.1 := by
        unfold seS
        rw [go_dh (by rw [e1]; exact hd), e1]
      rw [ih (by rw [e2]; exact hd), e2]
    · rfl
theorem neg2 {th : Int32} (h : 0 ≤ th) : ¬ (0 : Int32) ≤ -2 := by decide
theorem sv_1 {ba : (Nat → Int64) → Bool} {s : Nat → Int32} {n : Nat} {nu wo sp : Int32} {h a b : Nat} {th : Int32} (e : sv ba s n nu wo sp h a b th = 1) : h.testBit b = true := by
  unfold sv at e
  split at e
  · omega
  · split at e
    · assumption
    · split at e <;> omega
theorem se_step {h K a b v1 v2 : Nat} {th : Int32} {z : Nat × (Nat → Nat) × Int32 × Nat} (hz : ZI h K z) (hd : z.2.2.1 = -2) (hK : K + 1 < 1000000) (ha : a < 10) (hb : b < 10) (h1 : v1 = 1 → h.testBit b = true) (h2 : v2 = 1 → h.testBit a = true) (l1 : v1 ≤ 2) (l2 : v2 ≤ 2) (hth : 0 ≤ th) :
    ZI h (K + 1) (goS v2 a th (z.2.1 b) (goS v1 b th (z.2.1 a) z)) ∧ (((z.1.testBit a = true ∧ v1 = 2) ∨ (z.1.testBit b = true ∧ v2 = 2)) → (goS v2 a th (z.2.1 b) (goS v1 b th (z.2.1 a) z)).2.2.1 = th) ∧
    (¬ ((z.1.testBit a = true ∧ v1 = 2) ∨ (z.1.testBit b = true ∧ v2 = 2)) → (goS v2 a th (z.2.1 b) (goS v1 b th (z.2.1 a) z)).2.2.1 = -2 ∧ (goS v2 a th (z.2.1 b) (goS v1 b th (z.2.1 a) z)).1 = fdS v1 v2 a b z.1) := by
  have z1 := go_zi (v := v1) (b := b) (pd := z.2.1 a) (th := th) (hz.le (Nat.le_succ K)) (hz.2.2.1 a ha) hK hb h1 l1
  have z2 := go_zi (v := v2) (b := a) (pd := z.2.1 b) (th := th) z1 (hz.2.2.1 b hb) hK ha h2 l2
  have n2 : ¬ (0 : Int32) ≤ -2 := by decide
  have A : (z.1.testBit a = true → ¬ z.2.1 a = 1000000) ∧ (¬ z.1.testBit a = true → z.2.1 a = 1000000) := ⟨fun k q => (hz.2.1 a ha).mp q k, fun k => (hz.2.1 a ha).mpr k⟩
  have B : (z.1.testBit b = true → ¬ z.2.1 b = 1000000) ∧ (¬ z.1.testBit b = true → z.2.1 b = 1000000) := ⟨fun k q => (hz.2.1 b hb).mp q k, fun k => (hz.2.1 b hb).mpr k⟩
  obtain ⟨y, ey⟩ : ∃ y, y = goS v1 b th (z.2.1 a) z := ⟨_, rfl⟩
  have c1 : v1 = 0 ∨ v1 = 1 ∨ v1 = 2 := by omega
  have c2 : v2 = 0 ∨ v2 = 1 ∨ v2 = 2 := by omega
  -- the first
  have F : (z.1.testBit a = true ∧ v1 = 2 → y.2.2.1 = th ∧ y.1 = z.1) ∧ (¬ (z.1.testBit a = true ∧ v1 = 2) → y.2.2.1 = -2 ∧ y.1 = if z.1.testBit a = true ∧ v1 = 1 then z.1 ||| 2 ^ b else z.1) := by
    by_cases ra : z.1.testBit a = true
    · rcases c1 with rfl | rfl | rfl
      · rw [ey, go_0]
        exact ⟨fun k => absurd k.2 (by omega), fun _ => ⟨hd, (if_neg (by omega)).symm⟩⟩
      · rw [ey, go_1 (A.1 ra)]
        exact ⟨fun k => absurd k.2 (by omega), fun _ => ⟨hd, (if_pos ⟨ra, rfl⟩).symm⟩⟩
      · rw [ey, go_2 (A.1 ra)]
        exact ⟨fun _ => ⟨if_neg (by rw [hd]; exact n2), rfl⟩, fun k => absurd ⟨ra, rfl⟩ k⟩
    · rw [ey, go_nv (A.2 ra)]
      exact ⟨fun k => absurd k.1 ra, fun _ => ⟨hd, (if_neg (fun k => ra k.1)).symm⟩⟩
  rw [← ey] at z2 ⊢
  refine ⟨z2, fun k => ?_, fun k => ?_⟩
  · by_cases k1 : z.1.testBit a = true ∧ v1 = 2
    · rw [go_dh (by rw [(F.1 k1).1]; exact hth), (F.1 k1).1]
    · obtain ⟨rb, e2⟩ := k.resolve_left k1
      subst e2
      rw [go_2 (B.1 rb)]
      exact if_neg (by rw [(F.2 k1).1]; exact n2)
  · have k1 : ¬ (z.1.testBit a = true ∧ v1 = 2) := fun q => k (Or.inl q)
    obtain ⟨f1, f2⟩ := F.2 k1
    unfold fdS
    by_cases rb : z.1.testBit b = true
    · rcases c2 with rfl | rfl | rfl
      · rw [go_0, if_neg (by omega), f2]
        exact ⟨f1, rfl⟩
      · rw [go_1 (B.1 rb), if_pos (show z.1.testBit b = true ∧ 1 = 1 from ⟨rb, rfl⟩), ← f2]
        exact ⟨f1, rfl⟩
      · exact absurd (Or.inr ⟨rb, rfl⟩) k
    · rw [go_nv (B.2 rb), if_neg (fun q => rb q.1), f2]
      exact ⟨f1, rfl⟩
