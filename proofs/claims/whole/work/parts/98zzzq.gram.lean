/-! RULES: the language, pure. -/
abbrev R3 : Type := List It × Nat × Nat
def vaQ (b : Nat → Nat) (n ma p : Nat) : Sum Nat R3 :=
  if isD b n (bk b n p) = true then (if dg b n (bk b n p) - bk b n p ≤ 5 then (if 60 ≤ ma then .inl (1 + 8 * bk b n p + 3) else .inr ([(0, vN b n (bk b n p))], ma + 1, dg b n (bk b n p))) else .inl (1 + 8 * bk b n p + 1))
  else if whT b n 4 (.inr (bk b n p)) = 0 then .inl (1 + 8 * bk b n p) else if 60 ≤ ma then .inl (1 + 8 * bk b n p + 3) else .inr ([(1, whT b n 4 (.inr (bk b n p)) - 1)], ma + 1, wl b n (bk b n p))
def fsS (b : Nat → Nat) (n q : Nat) : Nat := if siT b n 42 (.inr q) = true then 4 else if siT b n 47 (.inr q) = true then 5 else 0
def tsS (b : Nat → Nat) (n q : Nat) : Nat := if siT b n 43 (.inr q) = true then 2 else if siT b n 45 (.inr q) = true then 3 else 0
def csS (b : Nat → Nat) (n q : Nat) : Nat := if siT b n 60 (.inr q) = true then 6 else if siT b n 316 (.inr q) = true then 7 else if siT b n 61 (.inr q) = true then 8 else if siT b n 318 (.inr q) = true then 9 else if siT b n 62 (.inr q) = true then 10 else 0
/-- signs s, each with what P reads behind it -/
def lpQ (s : Nat → Nat) (P : Nat → Nat → Sum Nat R3) (b : Nat → Nat) (n : Nat) : Nat → Nat → Nat → Sum Nat R3
  | 0, ma, p => .inr ([], ma, p)
  | f + 1, ma, p => if s (bk b n p) = 0 then .inr ([], ma, p) else bdS (P ma (bk b n p + 1)) fun z => bdS (lpQ s P b n f z.2.1 z.2.2) fun y => .inr (z.1 ++ [(s (bk b n p), 0)] ++ y.1, y.2.1, y.2.2)
theorem lpQ_s {s : Nat → Nat} {P : Nat → Nat → Sum Nat R3} {b : Nat → Nat} {n f ma p : Nat} : lpQ s P b n (f + 1) ma p = if s (bk b n p) = 0 then .inr ([], ma, p) else bdS (P ma (bk b n p + 1)) fun z => bdS (lpQ s P b n f z.2.1 z.2.2) fun y => .inr (z.1 ++ [(s (bk b n p), 0)] ++ y.1, y.2.1, y.2.2) := rfl
def fwQ (s : Nat → Nat) (P : Nat → Nat → Sum Nat R3) (b : Nat → Nat) (n ma p : Nat) : Sum Nat R3 := bdS (P ma p) fun z => bdS (lpQ s P b n 61 z.2.1 z.2.2) fun y => .inr (z.1 ++ y.1, y.2.1, y.2.2)
def tmQ (b : Nat → Nat) (n : Nat) : Nat → Nat → Sum Nat R3 := fwQ (fsS b n) (vaQ b n) b n
def suQ (b : Nat → Nat) (n : Nat) : Nat → Nat → Sum Nat R3 := fwQ (tsS b n) (tmQ b n) b n
def coQ (b : Nat → Nat) (n ma p : Nat) : Sum Nat R3 := bdS (suQ b n ma p) fun z => if csS b n (bk b n z.2.2) = 0 then .inl (1 + 8 * bk b n z.2.2) else if 60 ≤ z.2.1 then .inl (1 + 8 * bk b n z.2.2 + 3) else bdS (suQ b n (z.2.1 + 1) (ed b n (bk b n z.2.2))) fun y => .inr (z.1 ++ (y.1 ++ [(csS b n (bk b n z.2.2), 0)]), y.2.1, y.2.2)
/-! what is always so of a result -/
theorem PD.le {w : Nat → Int64} {o c : List It} {m m' : Nat} {v : Int64} (h : PD w o m v ∧ PC w c m v) (hm : m ≤ m') : PD w o m' v ∧ PC w c m' v := ⟨fun s t ht => h.1 s t (by omega), fun s t ht => h.2 s t (by omega)⟩
theorem AD.le {w : Nat → Int64} {o c : List It} {m m' : Nat} {f : Int64 → Int64} (h : AD w o m f ∧ AC w c m f) (hm : m ≤ m') : AD w o m' f ∧ AC w c m' f := ⟨fun s t ht => h.1 s t (by omega), fun s t ht => h.2 s t (by omega)⟩
/-- it reads a value -/
def OkV (n ma p : Nat) (z : R3) : Prop := ma < z.2.1 ∧ z.2.1 ≤ 60 ∧ z.2.2 ≤ n ∧ z.1.length + p ≤ z.2.2 ∧ p < z.2.2 ∧ ∀ w, ∃ v, PD w z.1 (z.2.1 - ma) v ∧ PC w z.1 (z.2.1 - ma) v
/-- it reads what is done with a value -/
def OkA (n ma p : Nat) (z : R3) : Prop := ma ≤ z.2.1 ∧ z.2.1 ≤ 60 ∧ z.2.2 ≤ n ∧ z.1.length + p ≤ z.2.2 ∧ ∀ w, ∃ f, AD w z.1 (z.2.1 - ma) f ∧ AC w z.1 (z.2.1 - ma) f
def OkP (n : Nat) (P : Nat → Nat → Sum Nat R3) : Prop := ∀ ma p, ma ≤ 60 → p ≤ n → (∀ z, P ma p = .inr z → OkV n ma p z) ∧ ∀ e, P ma p = .inl e → 0 < e ∧ e ≤ 4 + 8 * n
theorem wh4_le {b : Nat → Nat} {n q : Nat} : whT b n 4 (.inr q) ≤ 9 := by
  rw [wh_4]
  repeat' split
  all_goals omega
theorem wh4_isL {b : Nat → Nat} {n q : Nat} (h : ¬ whT b n 4 (.inr q) = 0) : isL b n q = true := by
  rw [wh_4] at h
  repeat' split at h
  all_goals first
    | (next g => exact (tk_iff.mp g).1)
    | exact absurd rfl h
theorem va_ok {b : Nat → Nat} {n : Nat} : OkP n (vaQ b n) := by
  intro ma p hma hp
  have hq := (bk_le (b := b) hp)
  obtain ⟨q, eq⟩ : ∃ q, q = bk b n p := ⟨_, rfl⟩
  unfold vaQ
  rw [← eq] at hq ⊢
  by_cases hD : isD b n q = true
  · rw [if_pos hD]
    by_cases h5 : dg b n q - q ≤ 5
    · rw [if_pos h5]
      by_cases h6 : 60 ≤ ma
      · rw [if_pos h6]
        exact ⟨fun z h => (by cases h), fun e h => by cases h; omega⟩
      · rw [if_neg h6]
        refine ⟨fun z h => ?_, fun e h => (by cases h)⟩
        cases h
        have d1 := dg_lt hD
        have d2 := (dg_le (b := b) hq.2).2
        refine ⟨Nat.lt_succ_self _, by show ma + 1 ≤ 60; omega, d2, by show 1 + p ≤ dg b n q; omega, by show p < dg b n q; omega, fun w => ⟨(nI (vN b n q)).toInt64, ?_⟩⟩
        show PD w [(0, vN b n q)] (ma + 1 - ma) _ ∧ PC w [(0, vN b n q)] (ma + 1 - ma) _
        rw [Nat.add_sub_cancel_left]
        exact PD_num (vN_lt hq.2 h5)
    · rw [if_neg h5]
      exact ⟨fun z h => (by cases h), fun e h => by cases h; omega⟩
  · rw [if_neg hD]
    by_cases h0 : whT b n 4 (.inr q) = 0
    · rw [if_pos h0]
      exact ⟨fun z h => (by cases h), fun e h => by cases h; omega⟩
    · rw [if_neg h0]
      by_cases h6 : 60 ≤ ma
      · rw [if_pos h6]
        exact ⟨fun z h => (by cases h), fun e h => by cases h; omega⟩
      · rw [if_neg h6]
        refine ⟨fun z h => ?_, fun e h => (by cases h)⟩
        cases h
        have d1 := wl_lt (wh4_isL h0)
        have d2 := (wl_le (b := b) hq.2).2
        have h9 := wh4_le (b := b) (n := n) (q := q)
        refine ⟨Nat.lt_succ_self _, by show ma + 1 ≤ 60; omega, d2, by show 1 + p ≤ wl b n q; omega, by show p < wl b n q; omega, fun w => ⟨w (whT b n 4 (.inr q) - 1), ?_⟩⟩
        show PD w [(1, whT b n 4 (.inr q) - 1)] (ma + 1 - ma) _ ∧ PC w [(1, whT b n 4 (.inr q) - 1)] (ma + 1 - ma) _
        rw [Nat.add_sub_cancel_left]
        exact PD_word (by omega)
/-- a sign that joins, where it isn't 0; something stands there -/
def OkS (n : Nat) (s : Nat → Nat) : Prop := ∀ q, ¬ s q = 0 → opB (s q) = true ∧ q < n
theorem lp_ok {s : Nat → Nat} {P : Nat → Nat → Sum Nat R3} {b : Nat → Nat} {n : Nat} (hs : OkS n s) (hP : OkP n P) : ∀ (f ma p : Nat), ma ≤ 60 → p ≤ n → (∀ z, lpQ s P b n f ma p = .inr z → OkA n ma p z) ∧ ∀ e, lpQ s P b n f ma p = .inl e → 0 < e ∧ e ≤ 4 + 8 * n := by
  intro f
  induction f with
  | zero =>
    intro ma p hma hp
    refine ⟨fun z h => ?_, fun e h => (by cases h)⟩
    cases h
    exact ⟨Nat.le_refl _, hma, hp, by show 0 + p ≤ p; omega, fun w => ⟨id, AD.le AD_nil (by omega)⟩⟩
  | succ f ih =>
    intro ma p hma hp
    rw [lpQ_s]
    by_cases h0 : s (bk b n p) = 0
    · rw [if_pos h0]
      refine ⟨fun z h => ?_, fun e h => (by cases h)⟩
      cases h
      exact ⟨Nat.le_refl _, hma, hp, by show 0 + p ≤ p; omega, fun w => ⟨id, AD.le AD_nil (by omega)⟩⟩
    · rw [if_neg h0]
      obtain ⟨o1, o2⟩ := hs _ h0
      have hq := bk_le (b := b) hp
      obtain ⟨k1, k2⟩ := hP ma (bk b n p + 1) hma (by omega)
      cases h1 : P ma (bk b n p + 1) with
      | inl e1 =>
        rw [bdS_l rfl]
        exact ⟨fun z h => (by cases h), fun e h => by cases h; exact k2 _ h1⟩
      | inr z =>
        rw [bdS_r rfl]
        obtain ⟨z1, z2, z3, z4, z5, z6⟩ := k1 z h1
        obtain ⟨i1, i2⟩ := ih z.2.1 z.2.2 z2 z3
        cases h2 : lpQ s P b n f z.2.1 z.2.2 with
        | inl e1 =>
          rw [bdS_l rfl]
          exact ⟨fun z h => (by cases h), fun e h => by cases h; exact i2 _ h2⟩
        | inr y =>
          rw [bdS_r rfl]
          obtain ⟨y1, y2, y3, y4, y5⟩ := i1 y h2
          refine ⟨fun x h => ?_, fun e h => (by cases h)⟩
          cases h
          refine ⟨by show ma ≤ y.2.1; omega, y2, y3, ?_, fun w => ?_⟩
          · show (z.1 ++ [(s (bk b n p), 0)] ++ y.1).length + p ≤ y.2.2
            simp only [List.length_append, List.length_cons, List.length_nil]
            omega
          · obtain ⟨v, hv⟩ := z6 w
            obtain ⟨g, hg⟩ := y5 w
            have a := AD.op o1 (by omega) hv
            have c := AD.c a hg
            exact ⟨_, AD.le c (by show z.2.1 - ma + (y.2.1 - z.2.1) ≤ y.2.1 - ma; omega)⟩
theorem fw_ok {s : Nat → Nat} {P : Nat → Nat → Sum Nat R3} {b : Nat → Nat} {n : Nat} (hs : OkS n s) (hP : OkP n P) : OkP n (fwQ s P b n) := by
  intro ma p hma hp
  unfold fwQ
  obtain ⟨k1, k2⟩ := hP ma p hma hp
  cases h1 : P ma p with
  | inl e1 =>
    rw [bdS_l rfl]
    exact ⟨fun z h => (by cases h), fun e h => by cases h; exact k2 _ h1⟩
  | inr z =>
    rw [bdS_r rfl]
    obtain ⟨z1, z2, z3, z4, z5, z6⟩ := k1 z h1
    obtain ⟨i1, i2⟩ := lp_ok (b := b) hs hP 61 z.2.1 z.2.2 z2 z3
    cases h2 : lpQ s P b n 61 z.2.1 z.2.2 with
    | inl e1 =>
      rw [bdS_l rfl]
      exact ⟨fun z h => (by cases h), fun e h => by cases h; exact i2 _ h2⟩
    | inr y =>
      rw [bdS_r rfl]
      obtain ⟨y1, y2, y3, y4, y5⟩ := i1 y h2
      refine ⟨fun x h => ?_, fun e h => (by cases h)⟩
      cases h
      refine ⟨by show ma < y.2.1; omega, y2, y3, ?_, by show p < y.2.2; omega, fun w => ?_⟩
      · show (z.1 ++ y.1).length + p ≤ y.2.2
        simp only [List.length_append]
        omega
      · obtain ⟨v, hv⟩ := z6 w
        obtain ⟨g, hg⟩ := y5 w
        exact ⟨_, PD.le (PD.a (by omega) hv hg) (by show z.2.1 - ma + (y.2.1 - z.2.1) ≤ y.2.1 - ma; omega)⟩
theorem si_lt {b : Nat → Nat} {n q c : Nat} (h : siT b n c (.inr q) = true) : q < n := by
  have h1 : kd b n q = 3 := (of_decide_eq_true h).1
  unfold kd at h1
  split at h1
  · cases h1
  · split at h1
    · cases h1
    · split at h1
      · assumption
      · cases h1
theorem fs_ok {b : Nat → Nat} {n : Nat} : OkS n (fsS b n) := by
  intro q h
  unfold fsS at h ⊢
  split
  · next g => exact ⟨by decide, si_lt g⟩
  · split
    · next g => exact ⟨by decide, si_lt g⟩
    · next g1 g2 => rw [if_neg g1, if_neg g2] at h; exact absurd rfl h
theorem ts_ok {b : Nat → Nat} {n : Nat} : OkS n (tsS b n) := by
  intro q h
  unfold tsS at h ⊢
  split
  · next g => exact ⟨by decide, si_lt g⟩
  · split
    · next g => exact ⟨by decide, si_lt g⟩
    · next g1 g2 => rw [if_neg g1, if_neg g2] at h; exact absurd rfl h
theorem cs_ok {b : Nat → Nat} {n q : Nat} (h : ¬ csS b n q = 0) : opB (csS b n q) = true ∧ q < n ∧ 6 ≤ csS b n q ∧ csS b n q ≤ 10 := by
  unfold csS at h ⊢
  split
  · next g => exact ⟨by decide, si_lt g, by decide, by decide⟩
  · split
    · next g => exact ⟨by decide, si_lt g, by decide, by decide⟩
    · split
      · next g => exact ⟨by decide, si_lt g, by decide, by decide⟩
      · split
        · next g => exact ⟨by decide, si_lt g, by decide, by decide⟩
        · split
          · next g => exact ⟨by decide, si_lt g, by decide, by decide⟩
          · next g1 g2 g3 g4 g5 => rw [if_neg g1, if_neg g2, if_neg g3, if_neg g4, if_neg g5] at h; exact absurd rfl h
theorem tm_ok {b : Nat → Nat} {n : Nat} : OkP n (tmQ b n) := fw_ok fs_ok va_ok
theorem su_ok {b : Nat → Nat} {n : Nat} : OkP n (suQ b n) := fw_ok ts_ok tm_ok
