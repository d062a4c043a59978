/-! RULES: tests, pure. -/
abbrev R4 : Type := List It × List It × Nat × Nat
def b01 (v : Int64) : Prop := v = 0 ∨ v = 1
/-- it reads a test -/
def OkB (n ma p : Nat) (z : R4) : Prop := ma < z.2.2.1 ∧ z.2.2.1 ≤ 60 ∧ z.2.2.2 ≤ n ∧ z.1.length + p ≤ z.2.2.2 ∧ z.2.1.length + p ≤ z.2.2.2 ∧ p < z.2.2.2 ∧ ∀ w, ∃ v, b01 v ∧ PD w z.1 (z.2.2.1 - ma) v ∧ PC w z.2.1 (z.2.2.1 - ma) v
def OkE (n ma p : Nat) (z : R4) : Prop := ma ≤ z.2.2.1 ∧ z.2.2.1 ≤ 60 ∧ z.2.2.2 ≤ n ∧ z.1.length + p ≤ z.2.2.2 ∧ z.2.1.length + p ≤ z.2.2.2 ∧ ∀ w, ∃ f, (∀ v, b01 v → b01 (f v)) ∧ AD w z.1 (z.2.2.1 - ma) f ∧ AC w z.2.1 (z.2.2.1 - ma) f
def OkQ (n : Nat) (P : Nat → Nat → Sum Nat R4) : Prop := ∀ ma p, ma ≤ 60 → p ≤ n → (∀ z, P ma p = .inr z → OkB n ma p z) ∧ ∀ e, P ma p = .inl e → 0 < e ∧ e ≤ 4 + 8 * n
theorem cs_01 {t : Nat} (h1 : 6 ≤ t) (h2 : t ≤ 10) (a c : Int64) : b01 (jnD (nI t) a c) := by
  unfold b01
  have h : t = 6 ∨ t = 7 ∨ t = 8 ∨ t = 9 ∨ t = 10 := by omega
  rcases h with rfl | rfl | rfl | rfl | rfl
  · show (if a < c then (1 : Int64) else 0) = 0 ∨ (if a < c then (1 : Int64) else 0) = 1
    split <;> simp
  · show (if a ≤ c then (1 : Int64) else 0) = 0 ∨ (if a ≤ c then (1 : Int64) else 0) = 1
    split <;> simp
  · show (if a = c then (1 : Int64) else 0) = 0 ∨ (if a = c then (1 : Int64) else 0) = 1
    split <;> simp
  · show (if c ≤ a then (1 : Int64) else 0) = 0 ∨ (if c ≤ a then (1 : Int64) else 0) = 1
    split <;> simp
  · show (if c < a then (1 : Int64) else 0) = 0 ∨ (if c < a then (1 : Int64) else 0) = 1
    split <;> simp
theorem an_01 {a c : Int64} (ha : b01 a) (hc : b01 c) : b01 (jnD (nI 12) a c) ∧ b01 (jnD (nI 13) a c) := by
  unfold b01 at *
  rcases ha with rfl | rfl <;> rcases hc with rfl | rfl <;> exact ⟨by decide, by decide⟩
theorem nt_01 {k : Nat} {v : Int64} (h : b01 v) : b01 (ntF k v) := by
  unfold ntF b01 at *
  split
  · exact h
  · rcases h with rfl | rfl <;> decide
theorem co_ok {b : Nat → Nat} {n ma p : Nat} (hma : ma ≤ 60) (hp : p ≤ n) : (∀ z, coQ b n ma p = .inr z → OkB n ma p (z.1, z.1, z.2.1, z.2.2)) ∧ ∀ e, coQ b n ma p = .inl e → 0 < e ∧ e ≤ 4 + 8 * n := by
  unfold coQ
  obtain ⟨k1, k2⟩ := su_ok (b := b) (n := n) ma p hma hp
  cases h1 : suQ b n ma p with
  | inl e1 =>
    rw [bdS_l rfl]
    exact ⟨fun z h => (by cases h), fun e h => by cases h; exact k2 _ h1⟩
  | inr z =>
    rw [bdS_r rfl]
    obtain ⟨z1, z2, z3, z4, z5, z6⟩ := k1 z h1
    have hq := bk_le (b := b) z3
    by_cases h0 : csS b n (bk b n z.2.2) = 0
    · rw [if_pos h0]
      exact ⟨fun z h => (by cases h), fun e h => by cases h; omega⟩
    · rw [if_neg h0]
      obtain ⟨c1, c2, c3, c4⟩ := cs_ok h0
      by_cases h6 : 60 ≤ z.2.1
      · rw [if_pos h6]
        exact ⟨fun z h => (by cases h), fun e h => by cases h; omega⟩
      · rw [if_neg h6]
        have he : bk b n z.2.2 < ed b n (bk b n z.2.2) ∧ ed b n (bk b n z.2.2) ≤ n := by
          refine ⟨?_, (ed_le hq.2).2⟩
          unfold ed
          split
          · next g => exact wl_lt g
          · split
            · next g => exact dg_lt g
            · split <;> omega
        obtain ⟨i1, i2⟩ := su_ok (b := b) (n := n) (z.2.1 + 1) (ed b n (bk b n z.2.2)) (by omega) he.2
        cases h2 : suQ b n (z.2.1 + 1) (ed b n (bk b n z.2.2)) with
        | inl e1 =>
          rw [bdS_l rfl]
          exact ⟨fun z h => (by cases h), fun e h => by cases h; exact i2 _ h2⟩
        | inr y =>
          rw [bdS_r rfl]
          obtain ⟨y1, y2, y3, y4, y5, y6⟩ := i1 y h2
          refine ⟨fun x h => ?_, fun e h => (by cases h)⟩
          cases h
          have hl : (z.1 ++ (y.1 ++ [(csS b n (bk b n z.2.2), 0)])).length + p ≤ y.2.2 := by
            simp only [List.length_append, List.length_cons, List.length_nil]
            omega
          refine ⟨by show ma < y.2.1; omega, y2, y3, hl, hl, by show p < y.2.2; omega, fun w => ?_⟩
          obtain ⟨v, hv⟩ := z6 w
          obtain ⟨u, hu⟩ := y6 w
          have c := PD.a (by omega) hv (AD.op c1 (by omega) hu)
          exact ⟨_, cs_01 c3 c4 v u, PD.le c (by show z.2.1 - ma + (y.2.1 - (z.2.1 + 1)) ≤ y.2.1 - ma; omega)⟩
/-- the word not, d times at most -/
def wNot : List Nat := [110, 111, 116]
def wAnd : List Nat := [97, 110, 100]
def wOr : List Nat := [111, 114]
def ntQ (b : Nat → Nat) (n : Nat) : Nat → Nat → Nat × Nat
  | 0, p => (0, p)
  | d + 1, p => if tkB b n (bk b n p) wNot = true then ((ntQ b n d (wl b n (bk b n p))).1 + 1, (ntQ b n d (wl b n (bk b n p))).2) else (0, p)
theorem ntQ_s {b : Nat → Nat} {n d p : Nat} : ntQ b n (d + 1) p = if tkB b n (bk b n p) wNot = true then ((ntQ b n d (wl b n (bk b n p))).1 + 1, (ntQ b n d (wl b n (bk b n p))).2) else (0, p) := rfl
theorem nt_ok {b : Nat → Nat} {n : Nat} : ∀ (d p : Nat), p ≤ n → (ntQ b n d p).1 ≤ d ∧ (ntQ b n d p).2 ≤ n ∧ (ntQ b n d p).1 + p ≤ (ntQ b n d p).2 := by
  intro d
  induction d with
  | zero => intro p hp; exact ⟨Nat.le_refl _, hp, by show 0 + p ≤ p; omega⟩
  | succ d ih =>
    intro p hp
    rw [ntQ_s]
    by_cases h : tkB b n (bk b n p) wNot = true
    · rw [if_pos h]
      have hq := bk_le (b := b) hp
      have w1 := wl_lt (tk_iff.mp h).1
      have w2 := (wl_le (b := b) hq.2).2
      obtain ⟨a1, a2, a3⟩ := ih (wl b n (bk b n p)) w2
      refine ⟨by show _ + 1 ≤ d + 1; omega, a2, ?_⟩
      show (ntQ b n d (wl b n (bk b n p))).1 + 1 + p ≤ (ntQ b n d (wl b n (bk b n p))).2
      omega
    · rw [if_neg h]
      exact ⟨Nat.zero_le _, hp, by show 0 + p ≤ p; omega⟩
def faG (T : Nat → Nat → Nat → Sum Nat R4) (b : Nat → Nat) (n d ma p : Nat) : Sum Nat R4 :=
  if d - (ntQ b n d p).1 = 0 ∧ (siT b n 91 (.inr (bk b n (ntQ b n d p).2)) = true ∨ tkB b n (bk b n (ntQ b n d p).2) wNot = true) then .inl (1 + 8 * bk b n (ntQ b n d p).2 + 2)
  else if siT b n 91 (.inr (bk b n (ntQ b n d p).2)) = true then bdS (T (d - (ntQ b n d p).1 - 1) ma (bk b n (ntQ b n d p).2 + 1)) fun z => if siT b n 93 (.inr (bk b n z.2.2.2)) = true then .inr (z.1 ++ ntL (ntQ b n d p).1, z.2.1 ++ ntL ((ntQ b n d p).1 % 2), z.2.2.1, bk b n z.2.2.2 + 1) else .inl (1 + 8 * bk b n z.2.2.2)
  else bdS (coQ b n ma (ntQ b n d p).2) fun z => .inr (z.1 ++ ntL (ntQ b n d p).1, z.1 ++ ntL ((ntQ b n d p).1 % 2), z.2.1, z.2.2)
def lpW (w : List Nat) (t : Nat) (P : Nat → Nat → Sum Nat R4) (b : Nat → Nat) (n : Nat) : Nat → Nat → Nat → Sum Nat R4
  | 0, ma, p => .inr ([], [], ma, p)
  | f + 1, ma, p => if tkB b n (bk b n p) w = true then bdS (P ma (wl b n (bk b n p))) fun z => bdS (lpW w t P b n f z.2.2.1 z.2.2.2) fun y => .inr (z.1 ++ [(t, 0)] ++ y.1, z.2.1 ++ [(t, 0)] ++ y.2.1, y.2.2.1, y.2.2.2) else .inr ([], [], ma, p)
theorem lpW_s {w : List Nat} {t : Nat} {P : Nat → Nat → Sum Nat R4} {b : Nat → Nat} {n f ma p : Nat} : lpW w t P b n (f + 1) ma p = if tkB b n (bk b n p) w = true then bdS (P ma (wl b n (bk b n p))) fun z => bdS (lpW w t P b n f z.2.2.1 z.2.2.2) fun y => .inr (z.1 ++ [(t, 0)] ++ y.1, z.2.1 ++ [(t, 0)] ++ y.2.1, y.2.2.1, y.2.2.2) else .inr ([], [], ma, p) := rfl
def fwW (w : List Nat) (t : Nat) (P : Nat → Nat → Sum Nat R4) (b : Nat → Nat) (n ma p : Nat) : Sum Nat R4 := bdS (P ma p) fun z => bdS (lpW w t P b n 61 z.2.2.1 z.2.2.2) fun y => .inr (z.1 ++ y.1, z.2.1 ++ y.2.1, y.2.2.1, y.2.2.2)
def tsF (b : Nat → Nat) (n : Nat) : Nat → Nat → Nat → Nat → Sum Nat R4
  | 0, _, _, _ => .inl 1
  | g + 1, d, ma, p => fwW wOr 13 (fwW wAnd 12 (faG (tsF b n g) b n d) b n) b n ma p
theorem tsF_s {b : Nat → Nat} {n g d ma p : Nat} : tsF b n (g + 1) d ma p = fwW wOr 13 (fwW wAnd 12 (faG (tsF b n g) b n d) b n) b n ma p := rfl
theorem fa_ok {T : Nat → Nat → Nat → Sum Nat R4} {b : Nat → Nat} {n d : Nat} (hT : ∀ d', d' < d → OkQ n (T d')) : OkQ n (faG T b n d) := by
  intro ma p hma hp
  unfold faG
  obtain ⟨a1, a2, a3⟩ := nt_ok (b := b) (n := n) d p hp
  obtain ⟨k, ek⟩ : ∃ k, k = (ntQ b n d p).1 := ⟨_, rfl⟩
  obtain ⟨p1, ep⟩ : ∃ p1, p1 = (ntQ b n d p).2 := ⟨_, rfl⟩
  rw [← ek] at a1 a3 ⊢
  rw [← ep] at a2 a3 ⊢
  have hq := bk_le (b := b) a2
  have lk : ∀ k, (ntL k).length = k := fun k => List.length_replicate
  by_cases c1 : d - k = 0 ∧ (siT b n 91 (.inr (bk b n p1)) = true ∨ tkB b n (bk b n p1) wNot = true)
  · rw [if_pos c1]
    exact ⟨fun z h => (by cases h), fun e h => by cases h; omega⟩
  · rw [if_neg c1]
    by_cases c2 : siT b n 91 (.inr (bk b n p1)) = true
    · rw [if_pos c2]
      have qn := si_lt c2
      have dk : ¬ d - k = 0 := fun z => c1 ⟨z, Or.inl c2⟩
      obtain ⟨k1, k2⟩ := hT (d - k - 1) (by omega) ma (bk b n p1 + 1) hma (by omega)
      cases h1 : T (d - k - 1) ma (bk b n p1 + 1) with
      | inl e1 =>
        rw [bdS_l rfl]
        exact ⟨fun z h => (by cases h), fun e h => by cases h; exact k2 _ h1⟩
      | inr z =>
        rw [bdS_r rfl]
        obtain ⟨z1, z2, z3, z4, z5, z6, z7⟩ := k1 z h1
        have hz := bk_le (b := b) z3
        by_cases c3 : siT b n 93 (.inr (bk b n z.2.2.2)) = true
        · rw [if_pos c3]
          have zn := si_lt c3
          refine ⟨fun x h => ?_, fun e h => (by cases h)⟩
          cases h
          refine ⟨z1, z2, by show bk b n z.2.2.2 + 1 ≤ n; omega, ?_, ?_, by show p < bk b n z.2.2.2 + 1; omega, fun w => ?_⟩
          · show (z.1 ++ ntL k).length + p ≤ bk b n z.2.2.2 + 1
            rw [List.length_append, lk]
            omega
          · show (z.2.1 ++ ntL (k % 2)).length + p ≤ bk b n z.2.2.2 + 1
            rw [List.length_append, lk]
            have := Nat.mod_le k 2
            omega
          · obtain ⟨v, hb, hv⟩ := z7 w
            exact ⟨ntF k v, nt_01 hb, PD.a (m2 := 0) (show 1 ≤ z.2.2.1 - ma by omega) hv ⟨AD_nots k, AC_nots k⟩⟩
        · rw [if_neg c3]
          exact ⟨fun z h => (by cases h), fun e h => by cases h; omega⟩
    · rw [if_neg c2]
      obtain ⟨k1, k2⟩ := co_ok (b := b) (n := n) (p := p1) hma a2
      cases h1 : coQ b n ma p1 with
      | inl e1 =>
        rw [bdS_l rfl]
        exact ⟨fun z h => (by cases h), fun e h => by cases h; exact k2 _ h1⟩
      | inr z =>
        rw [bdS_r rfl]
        obtain ⟨z1, z2, z3, z4, z5, z6, z7⟩ := k1 z h1
        refine ⟨fun x h => ?_, fun e h => (by cases h)⟩
        cases h
        have z4 : z.1.length + p1 ≤ z.2.2 := z4
        have z6 : p1 < z.2.2 := z6
        refine ⟨z1, z2, z3, ?_, ?_, by show p < z.2.2; omega, fun w => ?_⟩
        · show (z.1 ++ ntL k).length + p ≤ z.2.2
          rw [List.length_append, lk]
          omega
        · show (z.1 ++ ntL (k % 2)).length + p ≤ z.2.2
          rw [List.length_append, lk]
          have := Nat.mod_le k 2
          omega
        · obtain ⟨v, hb, hv⟩ := z7 w
          have z1 : ma < z.2.1 := z1
          exact ⟨ntF k v, nt_01 hb, PD.a (m2 := 0) (show 1 ≤ z.2.1 - ma by omega) hv ⟨AD_nots k, AC_nots k⟩⟩
theorem lpW_ok {w : List Nat} {t : Nat} {P : Nat → Nat → Sum Nat R4} {b : Nat → Nat} {n : Nat} (ht : t = 12 ∨ t = 13) (hP : OkQ n P) : ∀ (f ma p : Nat), ma ≤ 60 → p ≤ n → (∀ z, lpW w t P b n f ma p = .inr z → OkE n ma p z) ∧ ∀ e, lpW w t P b n f ma p = .inl e → 0 < e ∧ e ≤ 4 + 8 * n := by
  have ho : opB t = true := by rcases ht with rfl | rfl <;> decide
  intro f
  induction f with
  | zero =>
    intro ma p hma hp
    refine ⟨fun z h => ?_, fun e h => (by cases h)⟩
    cases h
    exact ⟨Nat.le_refl _, hma, hp, by show 0 + p ≤ p; omega, by show 0 + p ≤ p; omega, fun w => ⟨id, fun _ h => h, AD.le AD_nil (by omega)⟩⟩
  | succ f ih =>
    intro ma p hma hp
    rw [lpW_s]
    by_cases h0 : tkB b n (bk b n p) w = true
    · rw [if_pos h0]
      have hq := bk_le (b := b) hp
      have w1 := wl_lt (tk_iff.mp h0).1
      have w2 := (wl_le (b := b) hq.2).2
      obtain ⟨k1, k2⟩ := hP ma (wl b n (bk b n p)) hma w2
      cases h1 : P ma (wl b n (bk b n p)) with
      | inl e1 =>
        rw [bdS_l rfl]
        exact ⟨fun z h => (by cases h), fun e h => by cases h; exact k2 _ h1⟩
      | inr z =>
        rw [bdS_r rfl]
        obtain ⟨z1, z2, z3, z4, z5, z6, z7⟩ := k1 z h1
        obtain ⟨i1, i2⟩ := ih z.2.2.1 z.2.2.2 z2 z3
        cases h2 : lpW w t P b n f z.2.2.1 z.2.2.2 with
        | inl e1 =>
          rw [bdS_l rfl]
          exact ⟨fun z h => (by cases h), fun e h => by cases h; exact i2 _ h2⟩
        | inr y =>
          rw [bdS_r rfl]
          obtain ⟨y1, y2, y3, y4, y5, y6⟩ := i1 y h2
          refine ⟨fun x h => ?_, fun e h => (by cases h)⟩
          cases h
          refine ⟨by show ma ≤ y.2.2.1; omega, y2, y3, ?_, ?_, fun w => ?_⟩
          · show (z.1 ++ [(t, 0)] ++ y.1).length + p ≤ y.2.2.2
            simp only [List.length_append, List.length_cons, List.length_nil]
            omega
          · show (z.2.1 ++ [(t, 0)] ++ y.2.1).length + p ≤ y.2.2.2
            simp only [List.length_append, List.length_cons, List.length_nil]
            omega
          · obtain ⟨v, hb, hv⟩ := z7 w
            obtain ⟨g, hg1, hg2⟩ := y6 w
            have a := AD.op ho (by omega) hv
            have c := AD.c a hg2
            refine ⟨_, fun u hu => hg1 _ ?_, AD.le c (by show z.2.2.1 - ma + (y.2.2.1 - z.2.2.1) ≤ y.2.2.1 - ma; omega)⟩
            rcases ht with rfl | rfl
            · exact (an_01 hu hb).1
            · exact (an_01 hu hb).2
    · rw [if_neg h0]
      refine ⟨fun z h => ?_, fun e h => (by cases h)⟩
      cases h
      exact ⟨Nat.le_refl _, hma, hp, by show 0 + p ≤ p; omega, by show 0 + p ≤ p; omega, fun w => ⟨id, fun _ h => h, AD.le AD_nil (by omega)⟩⟩
theorem fwW_ok {w : List Nat} {t : Nat} {P : Nat → Nat → Sum Nat R4} {b : Nat → Nat} {n : Nat} (ht : t = 12 ∨ t = 13) (hP : OkQ n P) : OkQ n (fwW w t P b n) := by
  intro ma p hma hp
  unfold fwW
  obtain ⟨k1, k2⟩ := hP ma p hma hp
  cases h1 : P ma p with
  | inl e1 =>
    rw [bdS_l rfl]
    exact ⟨fun z h => (by cases h), fun e h => by cases h; exact k2 _ h1⟩
  | inr z =>
    rw [bdS_r rfl]
    obtain ⟨z1, z2, z3, z4, z5, z6, z7⟩ := k1 z h1
    obtain ⟨i1, i2⟩ := lpW_ok (w := w) (b := b) ht hP 61 z.2.2.1 z.2.2.2 z2 z3
    cases h2 : lpW w t P b n 61 z.2.2.1 z.2.2.2 with
    | inl e1 =>
      rw [bdS_l rfl]
      exact ⟨fun z h => (by cases h), fun e h => by cases h; exact i2 _ h2⟩
    | inr y =>
      rw [bdS_r rfl]
      obtain ⟨y1, y2, y3, y4, y5, y6⟩ := i1 y h2
      refine ⟨fun x h => ?_, fun e h => (by cases h)⟩
      cases h
      refine ⟨by show ma < y.2.2.1; omega, y2, y3, ?_, ?_, by show p < y.2.2.2; omega, fun w => ?_⟩
      · show (z.1 ++ y.1).length + p ≤ y.2.2.2
        rw [List.length_append]
        omega
      · show (z.2.1 ++ y.2.1).length + p ≤ y.2.2.2
        rw [List.length_append]
        omega
      · obtain ⟨v, hb, hv⟩ := z7 w
        obtain ⟨g, hg1, hg2⟩ := y6 w
        exact ⟨_, hg1 _ hb, PD.le (PD.a (by omega) hv hg2) (by show z.2.2.1 - ma + (y.2.2.1 - z.2.2.1) ≤ y.2.2.1 - ma; omega)⟩
theorem ts_okQ {b : Nat → Nat} {n : Nat} : ∀ (g d : Nat), d < g → OkQ n (tsF b n g d) := by
  intro g
  induction g with
  | zero => intro d h; exact absurd h (Nat.not_lt_zero _)
  | succ g ih =>
    intro d hd
    have h : OkQ n (fwW wOr 13 (fwW wAnd 12 (faG (tsF b n g) b n d) b n) b n) := fwW_ok (Or.inr rfl) (fwW_ok (Or.inl rfl) (fa_ok fun d' h => ih d' (by omega)))
    exact h
/-- so the same value on both sides: the test of the row and that of the list -/
theorem cle_of {n ma p : Nat} {z : R4} {cc dc : Nat → Int32} {f1 f2 : Nat} (h : OkB n ma p z) (hc : ∀ i, i < z.2.1.length → cc (f1 + i) = eC (z.2.1.getD i (0, 0))) (hd : ∀ i, i < z.1.length → dc (f2 + i) = eD (z.1.getD i (0, 0))) : ClE cc f1 (f1 + z.2.1.length) dc f2 (f2 + z.1.length) := by
  intro w s1 s2
  obtain ⟨k1, k2, _, _, _, _, k7⟩ := h
  obtain ⟨v, hb, hv1, hv2⟩ := k7 w
  obtain ⟨u, e1, e2, _⟩ := hv1 s2 0 (by omega)
  obtain ⟨t, g1, g2, _⟩ := hv2 s1 0 (by omega)
  refine ⟨(u, 0 + 1), ?_, Nat.one_pos, by show 0 + 1 ≤ 64; omega, ?_⟩
  · rw [Nat.add_sub_cancel_left, ruD_l _ _ _ hd]
    exact e1
  · rw [Nat.add_sub_cancel_left, ruC_l _ _ _ hc, g1]
    show u 0 = 1 ↔ 0 < 0 + 1 ∧ t 0 ≠ 0
    rw [e2, g2]
    rcases hb with rfl | rfl <;> decide
