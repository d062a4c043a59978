/-! RULES: what an item means, on both sides. -/
abbrev It : Type := Nat × Nat
def eD (i : It) : Int32 := nI (i.1 + 16 * i.2)
def eK (t v : Nat) : Nat := if t = 1 then v + 1 else if t ≤ 10 then t + 8 else if t = 11 then 21 else t + 7
def eC (i : It) : Int32 := if i.1 = 0 then nI i.2 else -(nI (eK i.1 i.2))
theorem eD_a {t v : Nat} (ht : t < 16) (hv : v < 100000) : nI (t + 16 * v) &&& 15 = nI t := by
  have := pk_andN (n := t + 16 * v) (by omega) (m := 15) 4 (by decide)
  rw [this]
  congr 1
  omega
theorem eD_s {t v : Nat} (ht : t < 16) (hv : v < 100000) : nI (t + 16 * v) >>> ((4 : Int32) &&& 31) = nI v := by
  rw [pk_shrN (by omega) _ 4 (by decide)]
  congr 1
  omega
def rD (w : Nat → Int64) : List It → (Nat → Int64) × Nat → Option ((Nat → Int64) × Nat)
  | [], q => some q
  | i :: l, q => match stD w (eD i) q with
    | none => none
    | some r => rD w l r
def rC (w : Nat → Int64) : List It → (Nat → Int64) × Nat → (Nat → Int64) × Nat
  | [], q => q
  | i :: l, q => rC w l (stC w (eC i) q)
theorem rD_app {w : Nat → Int64} : ∀ (a b : List It) (q : (Nat → Int64) × Nat), rD w (a ++ b) q = (rD w a q).bind (rD w b) := by
  intro a
  induction a with
  | nil => intro b q; rfl
  | cons i a ih =>
    intro b q
    show (match stD w (eD i) q with
      | none => none
      | some r => rD w (a ++ b) r) = (match stD w (eD i) q with
      | none => none
      | some r => rD w a r).bind (rD w b)
    cases stD w (eD i) q with
    | none => rfl
    | some r => exact ih b r
theorem rC_app {w : Nat → Int64} : ∀ (a b : List It) (q : (Nat → Int64) × Nat), rC w (a ++ b) q = rC w b (rC w a q) := by
  intro a
  induction a with
  | nil => intro b q; rfl
  | cons i a ih => intro b q; exact ih b _
/-- the code of a list lies in a row, from f on -/
theorem ruD_l {w : Nat → Int64} {code : Nat → Int32} : ∀ (l : List It) (f : Nat) (q : (Nat → Int64) × Nat), (∀ i, i < l.length → code (f + i) = eD (l.getD i (0, 0))) → ruD w code f l.length q = rD w l q := by
  intro l
  induction l with
  | nil => intro f q _; rfl
  | cons a l ih =>
    intro f q h
    have h0 := h 0 (by simp)
    rw [Nat.add_zero] at h0
    show (match stD w (code f) q with
      | none => none
      | some r => ruD w code (f + 1) l.length r) = (match stD w (eD a) q with
      | none => none
      | some r => rD w l r)
    rw [show code f = eD a from h0]
    cases stD w (eD a) q with
    | none => rfl
    | some r =>
      refine ih (f + 1) r fun i hi => ?_
      have := h (i + 1) (by simp only [List.length_cons]; omega)
      rw [show f + 1 + i = f + (i + 1) by omega]
      exact this
theorem ruC_l {w : Nat → Int64} {code : Nat → Int32} : ∀ (l : List It) (f : Nat) (q : (Nat → Int64) × Nat), (∀ i, i < l.length → code (f + i) = eC (l.getD i (0, 0))) → ruC w code f l.length q = rC w l q := by
  intro l
  induction l with
  | nil => intro f q _; rfl
  | cons a l ih =>
    intro f q h
    have h0 := h 0 (by simp)
    rw [Nat.add_zero] at h0
    show ruC w code (f + 1) l.length (stC w (code f) q) = rC w l (stC w (eC a) q)
    rw [show code f = eC a from h0]
    refine ih (f + 1) _ fun i hi => ?_
    have := h (i + 1) (by simp only [List.length_cons]; omega)
    rw [show f + 1 + i = f + (i + 1) by omega]
    exact this
/-! one value is pushed -/
def PD (w : Nat → Int64) (o : List It) (m : Nat) (v : Int64) : Prop := ∀ (s : Nat → Int64) (top : Nat), top + m ≤ 64 → ∃ s', rD w o (s, top) = some (s', top + 1) ∧ s' top = v ∧ ∀ i, i < top → s' i = s i
def PC (w : Nat → Int64) (o : List It) (m : Nat) (v : Int64) : Prop := ∀ (s : Nat → Int64) (top : Nat), top + m ≤ 64 → ∃ s', rC w o (s, top) = (s', top + 1) ∧ s' top = v ∧ ∀ i, i < top → s' i = s i
theorem zf_s (s : Nat → Int64) (k : Nat) (v : Int64) : z_f s k v k = v := if_pos rfl
theorem zf_o (s : Nat → Int64) {k i : Nat} (v : Int64) (h : i ≠ k) : z_f s k v i = s i := if_neg h
theorem m9_le {v : Nat} (h : v < 2 ^ 31) : (-9 : Int32) ≤ nI v := Int32.le_trans (show (-9 : Int32) ≤ nI 0 from by decide) (nI_le (by omega) h)
theorem PD_num {w : Nat → Int64} {v : Nat} (hv : v < 100000) : PD w [(0, v)] 1 (nI v).toInt64 ∧ PC w [(0, v)] 1 (nI v).toInt64 := by
  refine ⟨fun s top ht => ⟨z_f s top (nI v).toInt64, ?_, zf_s _ _ _, fun i hi => zf_o _ _ (by omega)⟩, fun s top ht => ⟨z_f s top (nI v).toInt64, ?_, zf_s _ _ _, fun i hi => zf_o _ _ (by omega)⟩⟩
  · show (match stD w (nI (0 + 16 * v)) (s, top) with
      | none => none
      | some r => some r) = _
    have e : stD w (nI (0 + 16 * v)) (s, top) = some (z_f s top (nI v).toInt64, top + 1) := by
      unfold stD
      rw [eD_a (t := 0) (by omega) hv, if_pos (show nI 0 = 0 from rfl), if_pos (show top < 64 by omega), eD_s (t := 0) (by omega) hv]
    rw [e]
  · show stC w (nI v) (s, top) = _
    unfold stC
    rw [if_pos (m9_le (by omega)), if_pos (show top < 64 by omega), if_pos (show (0 : Int32) ≤ nI v from nI_le (a := 0) (by omega) (by omega))]
theorem eC_w : ∀ k, k < 9 → (-9 : Int32) ≤ -(nI (k + 1)) ∧ ¬ (0 : Int32) ≤ -(nI (k + 1)) ∧ cl (-(-(nI (k + 1)))) - 1 = k := by decide +kernel
theorem PD_word {w : Nat → Int64} {k : Nat} (hk : k < 9) : PD w [(1, k)] 1 (w k) ∧ PC w [(1, k)] 1 (w k) := by
  refine ⟨fun s top ht => ⟨z_f s top (w k), ?_, zf_s _ _ _, fun i hi => zf_o _ _ (by omega)⟩, fun s top ht => ⟨z_f s top (w k), ?_, zf_s _ _ _, fun i hi => zf_o _ _ (by omega)⟩⟩
  · have e : stD w (nI (1 + 16 * k)) (s, top) = some (z_f s top (w k), top + 1) := by
      unfold stD
      rw [eD_a (t := 1) (by omega) (by omega), if_neg (show ¬ nI 1 = 0 from by decide), if_pos (show nI 1 = 1 from rfl), eD_s (t := 1) (by omega) (by omega), cl_nI (by omega), if_pos ⟨show top < 64 by omega, rfl, hk⟩]
    show (match stD w (nI (1 + 16 * k)) (s, top) with
      | none => none
      | some r => some r) = _
    rw [e]
  · obtain ⟨h1, h2, h3⟩ := eC_w k hk
    show stC w (-(nI (k + 1))) (s, top) = _
    unfold stC
    rw [if_pos h1, if_pos (show top < 64 by omega), if_neg h2, h3]
/-! two are joined -/
def opB (t : Nat) : Bool := (decide (2 ≤ t) && decide (t ≤ 10)) || decide (t = 12) || decide (t = 13)
theorem op_lt {t : Nat} (h : opB t = true) : t < 14 := by
  unfold opB at h
  simp only [Bool.or_eq_true, Bool.and_eq_true, decide_eq_true_eq] at h
  omega
def op_ok : Bool := (List.range 14).all (fun t => if opB t = true then decide (¬ (-9 : Int32) ≤ eC (t, 0)) && decide (¬ eC (t, 0) = -21) && decide (¬ nI t = 0) && decide (¬ nI t = 1) && decide (¬ nI t = 11) else true)
theorem op_all : op_ok = true := by decide +kernel
theorem op_f {t : Nat} (h : opB t = true) : ¬ (-9 : Int32) ≤ eC (t, 0) ∧ ¬ eC (t, 0) = -21 ∧ ¬ nI t = 0 ∧ ¬ nI t = 1 ∧ ¬ nI t = 11 := by
  have := List.all_eq_true.mp op_all t (List.mem_range.mpr (op_lt h))
  rw [if_pos h] at this
  simp only [Bool.and_eq_true, decide_eq_true_eq] at this
  exact ⟨this.1.1.1.1, this.1.1.1.2, this.1.1.2, this.1.2, this.2⟩
theorem jn_eq {t : Nat} (h : opB t = true) (a b : Int64) : jnC (eC (t, 0)) a b = jnD (nI t) a b := by
  have ht := op_lt h
  unfold opB at h
  match t, ht with
  | 0, _ => cases h
  | 1, _ => cases h
  | 2, _ => rfl
  | 3, _ => rfl
  | 4, _ => rfl
  | 5, _ => rfl
  | 6, _ => rfl
  | 7, _ => rfl
  | 8, _ => rfl
  | 9, _ => rfl
  | 10, _ => rfl
  | 11, _ => cases h
  | 12, _ => rfl
  | 13, _ => rfl
/-- the value on top becomes another -/
def AD (w : Nat → Int64) (o : List It) (m : Nat) (f : Int64 → Int64) : Prop := ∀ (s : Nat → Int64) (top : Nat), top + 1 + m ≤ 64 → ∃ s', rD w o (s, top + 1) = some (s', top + 1) ∧ s' top = f (s top) ∧ ∀ i, i < top → s' i = s i
def AC (w : Nat → Int64) (o : List It) (m : Nat) (f : Int64 → Int64) : Prop := ∀ (s : Nat → Int64) (top : Nat), top + 1 + m ≤ 64 → ∃ s', rC w o (s, top + 1) = (s', top + 1) ∧ s' top = f (s top) ∧ ∀ i, i < top → s' i = s i
theorem AD_nil {w : Nat → Int64} : AD w [] 0 id ∧ AC w [] 0 id := ⟨fun s top _ => ⟨s, rfl, rfl, fun _ _ => rfl⟩, fun s top _ => ⟨s, rfl, rfl, fun _ _ => rfl⟩⟩
theorem PD.a {w : Nat → Int64} {o1 o2 c1 c2 : List It} {m1 m2 : Nat} {v : Int64} {f : Int64 → Int64} (hm : 1 ≤ m1) (h1 : PD w o1 m1 v ∧ PC w c1 m1 v) (h2 : AD w o2 m2 f ∧ AC w c2 m2 f) : PD w (o1 ++ o2) (m1 + m2) (f v) ∧ PC w (c1 ++ c2) (m1 + m2) (f v) := by
  constructor
  · intro s top ht
    obtain ⟨s1, e1, e2, e3⟩ := h1.1 s top (by omega)
    obtain ⟨s2, g1, g2, g3⟩ := h2.1 s1 top (by omega)
    refine ⟨s2, ?_, ?_, fun i hi => (g3 i hi).trans (e3 i hi)⟩
    · rw [rD_app, e1]; exact g1
    · rw [g2, e2]
  · intro s top ht
    obtain ⟨s1, e1, e2, e3⟩ := h1.2 s top (by omega)
    obtain ⟨s2, g1, g2, g3⟩ := h2.2 s1 top (by omega)
    refine ⟨s2, ?_, ?_, fun i hi => (g3 i hi).trans (e3 i hi)⟩
    · rw [rC_app, e1]; exact g1
    · rw [g2, e2]
theorem AD.c {w : Nat → Int64} {o1 o2 c1 c2 : List It} {m1 m2 : Nat} {f g : Int64 → Int64} (h1 : AD w o1 m1 f ∧ AC w c1 m1 f) (h2 : AD w o2 m2 g ∧ AC w c2 m2 g) : AD w (o1 ++ o2) (m1 + m2) (fun v => g (f v)) ∧ AC w (c1 ++ c2) (m1 + m2) (fun v => g (f v)) := by
  constructor
  · intro s top ht
    obtain ⟨s1, e1, e2, e3⟩ := h1.1 s top (by omega)
    obtain ⟨s2, g1, g2, g3⟩ := h2.1 s1 top (by omega)
    refine ⟨s2, ?_, ?_, fun i hi => (g3 i hi).trans (e3 i hi)⟩
    · rw [rD_app, e1]; exact g1
    · rw [g2, e2]
  · intro s top ht
    obtain ⟨s1, e1, e2, e3⟩ := h1.2 s top (by omega)
    obtain ⟨s2, g1, g2, g3⟩ := h2.2 s1 top (by omega)
    refine ⟨s2, ?_, ?_, fun i hi => (g3 i hi).trans (e3 i hi)⟩
    · rw [rC_app, e1]; exact g1
    · rw [g2, e2]
/-- a value more, and the sign that joins it -/
theorem AD.op {w : Nat → Int64} {o c : List It} {m t : Nat} {v : Int64} (ht : opB t = true) (hm : 1 ≤ m) (h : PD w o m v ∧ PC w c m v) : AD w (o ++ [(t, 0)]) m (fun a => jnD (nI t) a v) ∧ AC w (c ++ [(t, 0)]) m (fun a => jnD (nI t) a v) := by
  obtain ⟨f1, f2, f3, f4, f5⟩ := op_f ht
  have t14 := op_lt ht
  constructor
  · intro s top hh
    obtain ⟨s1, e1, e2, e3⟩ := h.1 s (top + 1) (by omega)
    have e : stD w (nI (t + 16 * 0)) (s1, top + 1 + 1) = some (z_f s1 top (jnD (nI t) (s1 top) (s1 (top + 1))), top + 1) := by
      unfold stD
      rw [eD_a (by omega) (by omega), if_neg f3, if_neg f4, if_neg f5, if_pos ⟨show 1 < top + 1 + 1 by omega, show top + 1 + 1 ≤ 64 by omega⟩]
      rfl
    refine ⟨z_f s1 top (jnD (nI t) (s1 top) (s1 (top + 1))), ?_, ?_, fun i hi => ?_⟩
    · rw [rD_app, e1]
      show (match stD w (nI (t + 16 * 0)) (s1, top + 1 + 1) with
        | none => none
        | some r => some r) = _
      rw [e]
    · rw [zf_s, e2, e3 top (by omega)]
    · rw [zf_o _ _ (by omega)]; exact e3 i (by omega)
  · intro s top hh
    obtain ⟨s1, e1, e2, e3⟩ := h.2 s (top + 1) (by omega)
    refine ⟨z_f s1 top (jnD (nI t) (s1 top) (s1 (top + 1))), ?_, ?_, fun i hi => ?_⟩
    · rw [rC_app, e1]
      show stC w (eC (t, 0)) (s1, top + 1 + 1) = _
      unfold stC
      rw [if_neg f1, if_neg f2, if_pos (show 1 < top + 1 + 1 by omega), ← jn_eq ht]
      rfl
    · rw [zf_s, e2, e3 top (by omega)]
    · rw [zf_o _ _ (by omega)]; exact e3 i (by omega)
/-! not -/
theorem AD_not {w : Nat → Int64} : AD w [(11, 0)] 0 (fun v => 1 - v) ∧ AC w [(11, 0)] 0 (fun v => 1 - v) := by
  constructor
  · intro s top ht
    have e : stD w (nI (11 + 16 * 0)) (s, top + 1) = some (z_f s top (1 - s top), top + 1) := by
      unfold stD
      rw [eD_a (t := 11) (by omega) (by omega), if_neg (show ¬ nI 11 = 0 from by decide), if_neg (show ¬ nI 11 = 1 from by decide), if_pos (show nI 11 = 11 from rfl), if_pos ⟨show 0 < top + 1 by omega, show top + 1 ≤ 64 by omega⟩]
      rfl
    refine ⟨z_f s top (1 - s top), ?_, zf_s _ _ _, fun i hi => zf_o _ _ (by omega)⟩
    show (match stD w (nI (11 + 16 * 0)) (s, top + 1) with
      | none => none
      | some r => some r) = _
    rw [e]
  · intro s top ht
    refine ⟨z_f s top (1 - s top), ?_, zf_s _ _ _, fun i hi => zf_o _ _ (by omega)⟩
    show stC w (-21) (s, top + 1) = _
    unfold stC
    rw [if_neg (by decide), if_pos rfl, if_pos (show 0 < top + 1 by omega)]
    rfl
def ntL (k : Nat) : List It := List.replicate k (11, 0)
theorem n_n (v : Int64) : 1 - (1 - v) = v := by
  apply Int64.toBitVec_inj.mp
  simp only [Int64.toBitVec_sub]
  apply BitVec.eq_of_toNat_eq
  have h1 := v.toBitVec.isLt
  have h2 := (Int64.toBitVec 1).isLt
  simp only [BitVec.toNat_sub]
  omega
def ntF (k : Nat) (v : Int64) : Int64 := if k % 2 = 0 then v else 1 - v
theorem AD_nots {w : Nat → Int64} : ∀ k, AD w (ntL k) 0 (ntF k) := by
  intro k
  induction k with
  | zero => exact AD_nil.1
  | succ k ih =>
    intro s top ht
    obtain ⟨s1, e1, e2, e3⟩ := (AD_not (w := w)).1 s top (by omega)
    obtain ⟨s2, g1, g2, g3⟩ := ih s1 top (by omega)
    refine ⟨s2, ?_, ?_, fun i hi => (g3 i hi).trans (e3 i hi)⟩
    · have : ntL (k + 1) = [(11, 0)] ++ ntL k := rfl
      rw [this, rD_app, e1]
      exact g1
    · rw [g2, e2]
      unfold ntF
      rcases Nat.mod_two_eq_zero_or_one k with h | h
      · rw [if_pos h, if_neg (by omega)]
      · rw [if_neg (by omega), if_pos (by omega), n_n]
theorem AC_nots {w : Nat → Int64} (k : Nat) : AC w (ntL (k % 2)) 0 (ntF k) := by
  rcases Nat.mod_two_eq_zero_or_one k with h | h
  · rw [h]
    have e : ntF k = id := funext fun v => if_pos h
    rw [e]
    exact AD_nil.2
  · rw [h]
    have e : ntF k = fun v => 1 - v := funext fun v => if_neg (by omega)
    rw [e]
    exact AD_not.2
