/-! A TOWN read: pure, and in the class. -/
theorem cl_ok {b : Nat → Nat} {n q p : Nat} {s s' : TS} (hq : q ≤ n) (ho : tsO s) (h : clT b n s q = .inr (s', p)) : tsO s' ∧ s'.2.2.2.2 = s.2.2.2.2 + 1 ∧ p ≤ n := by
  obtain ⟨P, y, ⟨c, cf⟩, ⟨m, mf⟩, ln⟩ := s
  obtain ⟨o1, o2, o3, o4, o5, o6, o7, o8, o9, o10⟩ := ho
  unfold clT at h
  by_cases hk : whT b n 5 (.inr q) = 0
  · rw [if_pos hk] at h; cases h
  · rw [if_neg hk] at h
    by_cases ht : tmB (P, y, (c, cf), (m, mf), ln) (whT b n 5 (.inr q)) = true
    · rw [if_pos ht] at h; cases h
    · rw [if_neg ht] at h
      have ht' : ¬ (40 ≤ ln ∨ (whT b n 5 (.inr q) = 1 ∧ 0 < P) ∨ (whT b n 5 (.inr q) ≠ 1 ∧ P = 0) ∨ (whT b n 5 (.inr q) = 2 ∧ 0 < y) ∨ (whT b n 5 (.inr q) = 3 ∧ 8 ≤ c) ∨ (whT b n 5 (.inr q) = 4 ∧ 24 ≤ m)) := fun z => ht (decide_eq_true z)
      have hw : wl b n q ≤ n := (wl_le hq).2
      have q1 : bk b n (wl b n q) ≤ n := (bk_le hw).2
      rcases wh_le (b := b) (n := n) (q := q) with e | e | e | e | e
      · exact absurd e hk
      · rw [e] at h ht'
        have h : bdS (nmQ b n 2 10 (bk b n (wl b n q))) _ = .inr (s', p) := h
        cases h1 : nmQ b n 2 10 (bk b n (wl b n q)) with
        | inl e => rw [bdS_l h1] at h; cases h
        | inr z =>
          rw [bdS_r h1] at h
          cases h
          have k1 := nmq_ok (v := z.1) (p := z.2) q1 h1
          have z1 : c = 0 ∧ m = 0 := o9 (show P = 0 by omega)
          have o2 : P ≤ 10 := o2
          refine ⟨⟨⟨fun e => ?_, fun e => ?_⟩, k1.2.1, o3, o4, o5, ?_, fun i hi => ?_, fun i hi => ?_, fun e => ?_, Or.inr k1.1⟩, rfl, k1.2.2.1⟩
          · have e : z.1 = 0 := e
            omega
          · have e : ln + 1 = 0 := e
            omega
          · show ln + 1 ≤ 40
            omega
          · have hi : i < c := hi
            omega
          · have hi : i < m := hi
            omega
          · have e : z.1 = 0 := e
            omega
      · rw [e] at h ht'
        have h : bdS (nmQ b n 1 999 (bk b n (wl b n q))) _ = .inr (s', p) := h
        cases h1 : nmQ b n 1 999 (bk b n (wl b n q)) with
        | inl e => rw [bdS_l h1] at h; cases h
        | inr z =>
          rw [bdS_r h1] at h
          cases h
          have k1 := nmq_ok (v := z.1) (p := z.2) q1 h1
          refine ⟨⟨⟨fun e => ?_, fun e => ?_⟩, o2, k1.2.1, o4, o5, ?_, o7, o8, o9, o10⟩, rfl, k1.2.2.1⟩
          · have e : P = 0 := e
            omega
          · have e : ln + 1 = 0 := e
            omega
          · show ln + 1 ≤ 40
            omega
      · rw [e] at h ht'
        have h : bdS (nmQ b n 1 99 (bk b n (wl b n q))) _ = .inr (s', p) := h
        cases h1 : nmQ b n 1 99 (bk b n (wl b n q)) with
        | inl e => rw [bdS_l h1] at h; cases h
        | inr z1 =>
          rw [bdS_r h1] at h
          have k1 := nmq_ok (v := z1.1) (p := z1.2) q1 h1
          have q2 : bk b n z1.2 ≤ n := (bk_le k1.2.2.1).2
          have h : bdS (nmQ b n 0 (P - 1) (bk b n z1.2)) _ = .inr (s', p) := h
          cases h2 : nmQ b n 0 (P - 1) (bk b n z1.2) with
          | inl e => rw [bdS_l h2] at h; cases h
          | inr z2 =>
            rw [bdS_r h2] at h
            have k2 := nmq_ok (v := z2.1) (p := z2.2) q2 h2
            have q3 : bk b n z2.2 ≤ n := (bk_le k2.2.2.1).2
            cases h3 : nmQ b n 0 999 (bk b n z2.2) with
            | inl e => rw [bdS_l h3] at h; cases h
            | inr z3 =>
              rw [bdS_r h3] at h
              cases h
              have k3 := nmq_ok (v := z3.1) (p := z3.2) q3 h3
              refine ⟨⟨⟨fun e => ?_, fun e => ?_⟩, o2, o3, ?_, o5, ?_, fun i hi => ?_, o8, fun e => ?_, o10⟩, rfl, k3.2.2.1⟩
              · have e : P = 0 := e
                omega
              · have e : ln + 1 = 0 := e
                omega
              · show c + 1 ≤ 8
                omega
              · show ln + 1 ≤ 40
                omega
              · have hi : i < c + 1 := hi
                show 1 ≤ (upF cf c (z1.1, z2.1, z3.1) i).1 ∧ (upF cf c (z1.1, z2.1, z3.1) i).1 ≤ 99 ∧ (upF cf c (z1.1, z2.1, z3.1) i).2.1 < P ∧ (upF cf c (z1.1, z2.1, z3.1) i).2.2 ≤ 999
                by_cases e : i = c
                · rw [show upF cf c (z1.1, z2.1, z3.1) i = (z1.1, z2.1, z3.1) from if_pos e]
                  exact ⟨k1.1, k1.2.1, show z2.1 < P by omega, k3.2.1⟩
                · rw [show upF cf c (z1.1, z2.1, z3.1) i = cf i from if_neg e]
                  exact o7 i (show i < c by omega)
              · have e : P = 0 := e
                omega
      · rw [e] at h ht'
        have h : bdS (nmQ b n 0 1999 (bk b n (wl b n q))) _ = .inr (s', p) := h
        cases h1 : nmQ b n 0 1999 (bk b n (wl b n q)) with
        | inl e => rw [bdS_l h1] at h; cases h
        | inr z1 =>
          rw [bdS_r h1] at h
          have k1 := nmq_ok (v := z1.1) (p := z1.2) q1 h1
          have q2 : bk b n z1.2 ≤ n := (bk_le k1.2.2.1).2
          have h : bdS (nmQ b n 0 (P - 1) (bk b n z1.2)) _ = .inr (s', p) := h
          cases h2 : nmQ b n 0 (P - 1) (bk b n z1.2) with
          | inl e => rw [bdS_l h2] at h; cases h
          | inr z2 =>
            rw [bdS_r h2] at h
            have k2 := nmq_ok (v := z2.1) (p := z2.2) q2 h2
            have q3 : bk b n z2.2 ≤ n := (bk_le k2.2.2.1).2
            have h : bdS (nmQ b n 0 (P - 1) (bk b n z2.2)) _ = .inr (s', p) := h
            cases h3 : nmQ b n 0 (P - 1) (bk b n z2.2) with
            | inl e => rw [bdS_l h3] at h; cases h
            | inr z3 =>
              rw [bdS_r h3] at h
              have k3 := nmq_ok (v := z3.1) (p := z3.2) q3 h3
              by_cases ez : z3.1 = z2.1
              · have h : (if z3.1 = z2.1 then _ else _) = Sum.inr (s', p) := h
                rw [if_pos ez] at h; cases h
              · have h : (if z3.1 = z2.1 then _ else _) = Sum.inr (s', p) := h
                rw [if_neg ez] at h
                cases h
                refine ⟨⟨⟨fun e => ?_, fun e => ?_⟩, o2, o3, o4, ?_, ?_, o7, fun i hi => ?_, fun e => ?_, o10⟩, rfl, k3.2.2.1⟩
                · have e : P = 0 := e
                  omega
                · have e : ln + 1 = 0 := e
                  omega
                · show m + 1 ≤ 24
                  omega
                · show ln + 1 ≤ 40
                  omega
                · have hi : i < m + 1 := hi
                  show (upF mf m (z1.1, z2.1, z3.1) i).1 ≤ 1999 ∧ (upF mf m (z1.1, z2.1, z3.1) i).2.1 < P ∧ (upF mf m (z1.1, z2.1, z3.1) i).2.2 < P ∧ (upF mf m (z1.1, z2.1, z3.1) i).2.1 ≠ (upF mf m (z1.1, z2.1, z3.1) i).2.2
                  by_cases e : i = m
                  · rw [show upF mf m (z1.1, z2.1, z3.1) i = (z1.1, z2.1, z3.1) from if_pos e]
                    exact ⟨k1.2.1, show z2.1 < P by omega, show z3.1 < P by omega, fun z => ez z.symm⟩
                  · rw [show upF mf m (z1.1, z2.1, z3.1) i = mf i from if_neg e]
                    exact o8 i (show i < m by omega)
                · have e : P = 0 := e
                  omega
theorem cl_40 {b : Nat → Nat} {n q p : Nat} {s s' : TS} (h : clT b n s q = .inr (s', p)) : s.2.2.2.2 < 40 := by
  unfold clT at h
  by_cases hk : whT b n 5 (.inr q) = 0
  · rw [if_pos hk] at h; cases h
  · rw [if_neg hk] at h
    by_cases ht : tmB s (whT b n 5 (.inr q)) = true
    · rw [if_pos ht] at h; cases h
    · have : ¬ 40 ≤ s.2.2.2.2 := fun z => ht (decide_eq_true (Or.inl z))
      omega
def rdT (b : Nat → Nat) (n : Nat) : Nat → TS → Nat → Sum Nat TS
  | 0, s, _ => .inr s
  | f + 1, s, q => bdS (clT b n s q) fun z => if siT b n 59 (.inr (bk b n z.2)) = true then rdT b n f z.1 (bk b n (ed b n (bk b n z.2))) else if enT b n (.inr (bk b n z.2)) = true then .inr z.1 else .inl (1 + 8 * bk b n z.2)
theorem rdT_s {b : Nat → Nat} {n f q : Nat} {s : TS} : rdT b n (f + 1) s q = bdS (clT b n s q) fun z => if siT b n 59 (.inr (bk b n z.2)) = true then rdT b n f z.1 (bk b n (ed b n (bk b n z.2))) else if enT b n (.inr (bk b n z.2)) = true then .inr z.1 else .inl (1 + 8 * bk b n z.2) := rfl
theorem enT_i {b : Nat → Nat} {n q : Nat} : enT b n (.inr q) = true ↔ ¬ q < n := by
  show decide (kd b n q = 0) = true ↔ _
  rw [decide_eq_true_eq]
  unfold kd
  by_cases h1 : isL b n q = true
  · rw [if_pos h1]; exact ⟨fun z => (by cases z), fun z => absurd (isL_lt h1) z⟩
  · rw [if_neg h1]
    by_cases h2 : isD b n q = true
    · rw [if_pos h2]; exact ⟨fun z => (by cases z), fun z => absurd (isD_lt h2) z⟩
    · rw [if_neg h2]
      by_cases h3 : q < n
      · rw [if_pos h3]; exact ⟨fun z => (by cases z), fun z => absurd h3 z⟩
      · rw [if_neg h3]; exact ⟨fun _ => h3, fun _ => rfl⟩
/-- a sign that isn't < or > or a letter or a digit -/
def plS (c : Nat) : Prop := c < 256 ∧ ¬ (97 ≤ c ∧ c ≤ 122) ∧ ¬ (48 ≤ c ∧ c ≤ 57) ∧ c ≠ 60 ∧ c ≠ 62
theorem siT_i {b : Nat → Nat} {n q c : Nat} (hc : plS c) : siT b n c (.inr q) = true ↔ q < n ∧ b q = c := by
  show decide (kd b n q = 3 ∧ sg b n q = c) = true ↔ _
  rw [decide_eq_true_eq]
  obtain ⟨c1, c2, c3, c4, c5⟩ := hc
  unfold kd sg
  constructor
  · rintro ⟨h1, h2⟩
    by_cases z1 : isL b n q = true
    · rw [if_pos z1] at h1; cases h1
    · rw [if_neg z1] at h1
      by_cases z2 : isD b n q = true
      · rw [if_pos z2] at h1; cases h1
      · rw [if_neg z2] at h1
        by_cases z3 : q < n
        · refine ⟨z3, ?_⟩
          by_cases z4 : sgB b n q = true
          · rw [if_pos z4] at h2
            have := (of_decide_eq_true z4).1
            omega
          · rw [if_neg z4] at h2; exact h2
        · rw [if_neg z3] at h1; cases h1
  · rintro ⟨h1, h2⟩
    have z1 : ¬ isL b n q = true := fun z => by have := (of_decide_eq_true z).2; omega
    have z2 : ¬ isD b n q = true := fun z => by have := (of_decide_eq_true z).2; omega
    have z4 : ¬ sgB b n q = true := fun z => by have := (of_decide_eq_true z).1; omega
    rw [if_neg z1, if_neg z2, if_pos h1, if_neg z4]
    exact ⟨rfl, h2⟩
theorem ed_i {b : Nat → Nat} {n q c : Nat} (hc : plS c) (h : siT b n c (.inr q) = true) : ed b n q = q + 1 := by
  obtain ⟨h1, h2⟩ := (siT_i hc).mp h
  obtain ⟨c1, c2, c3, c4, c5⟩ := hc
  have z1 : ¬ isL b n q = true := fun z => by have := (of_decide_eq_true z).2; omega
  have z2 : ¬ isD b n q = true := fun z => by have := (of_decide_eq_true z).2; omega
  have z4 : ¬ sgB b n q = true := fun z => by have := (of_decide_eq_true z).1; omega
  unfold ed
  rw [if_neg z1, if_neg z2, if_pos h1, if_neg z4]
