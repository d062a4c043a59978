/-! THE TAPE, pure: bytes b, n of them. -/
def rnE (P : Nat → Bool) : Nat → Nat → Nat
  | 0, p => p
  | f + 1, p => if P p = true then rnE P f (p + 1) else p
def isB (b : Nat → Nat) (n p : Nat) : Bool := decide (p < n ∧ b p = 32)
def isL (b : Nat → Nat) (n p : Nat) : Bool := decide (p < n ∧ 97 ≤ b p ∧ b p ≤ 122)
def isD (b : Nat → Nat) (n p : Nat) : Bool := decide (p < n ∧ 48 ≤ b p ∧ b p ≤ 57)
def rE (P : Nat → Bool) (n p : Nat) : Nat := rnE P (n - p) p
abbrev bk (b : Nat → Nat) (n p : Nat) : Nat := rE (isB b n) n p
abbrev wl (b : Nat → Nat) (n p : Nat) : Nat := rE (isL b n) n p
abbrev dg (b : Nat → Nat) (n p : Nat) : Nat := rE (isD b n) n p
theorem isB_lt {b : Nat → Nat} {n q : Nat} (h : isB b n q = true) : q < n := (of_decide_eq_true h).1
theorem isL_lt {b : Nat → Nat} {n q : Nat} (h : isL b n q = true) : q < n := (of_decide_eq_true h).1
theorem isD_lt {b : Nat → Nat} {n q : Nat} (h : isD b n q = true) : q < n := (of_decide_eq_true h).1
theorem rE_y {P : Nat → Bool} {n p : Nat} (hP : ∀ q, P q = true → q < n) (h : P p = true) : rE P n p = rE P n (p + 1) := by
  have := hP p h
  unfold rE
  rw [show n - p = n - (p + 1) + 1 by omega]
  exact if_pos h
theorem rE_n {P : Nat → Bool} {n p : Nat} (h : ¬ P p = true) : rE P n p = p := by
  unfold rE
  cases n - p with
  | zero => rfl
  | succ f => exact if_neg h
theorem rnE_p {P : Nat → Bool} {n : Nat} (hP : ∀ q, P q = true → q < n) : ∀ (f p : Nat), p + f = n → p ≤ rnE P f p ∧ rnE P f p ≤ n ∧ ¬ P (rnE P f p) = true ∧ ∀ q, p ≤ q → q < rnE P f p → P q = true := by
  intro f
  induction f with
  | zero =>
    intro p hp
    refine ⟨Nat.le_refl _, by show p ≤ n; omega, fun h => ?_, fun q h1 h2 => absurd h2 (by show ¬ q < p; omega)⟩
    have := hP p h
    omega
  | succ f ih =>
    intro p hp
    by_cases h : P p = true
    · rw [show rnE P (f + 1) p = rnE P f (p + 1) from if_pos h]
      obtain ⟨a, c, d, e⟩ := ih (p + 1) (by omega)
      refine ⟨by omega, c, d, fun q h1 h2 => ?_⟩
      by_cases q1 : q = p
      · exact q1 ▸ h
      · exact e q (by omega) h2
    · rw [show rnE P (f + 1) p = p from if_neg h]
      exact ⟨Nat.le_refl _, by omega, h, fun q h1 h2 => absurd h2 (by omega)⟩
theorem rE_p {P : Nat → Bool} {n p : Nat} (hP : ∀ q, P q = true → q < n) (hp : p ≤ n) : p ≤ rE P n p ∧ rE P n p ≤ n ∧ ¬ P (rE P n p) = true ∧ ∀ q, p ≤ q → q < rE P n p → P q = true := rnE_p hP (n - p) p (by omega)
theorem bk_le {b : Nat → Nat} {n p : Nat} (hp : p ≤ n) : p ≤ bk b n p ∧ bk b n p ≤ n := ⟨(rE_p (fun _ => isB_lt) hp).1, (rE_p (fun _ => isB_lt) hp).2.1⟩
theorem wl_le {b : Nat → Nat} {n p : Nat} (hp : p ≤ n) : p ≤ wl b n p ∧ wl b n p ≤ n := ⟨(rE_p (fun _ => isL_lt) hp).1, (rE_p (fun _ => isL_lt) hp).2.1⟩
theorem dg_le {b : Nat → Nat} {n p : Nat} (hp : p ≤ n) : p ≤ dg b n p ∧ dg b n p ≤ n := ⟨(rE_p (fun _ => isD_lt) hp).1, (rE_p (fun _ => isD_lt) hp).2.1⟩
theorem bk_bk {b : Nat → Nat} {n p : Nat} (hp : p ≤ n) : bk b n (bk b n p) = bk b n p := rE_n (rE_p (fun _ => isB_lt) hp).2.2.1
theorem wl_lt {b : Nat → Nat} {n p : Nat} (h : isL b n p = true) : p < wl b n p := by
  show p < rE (isL b n) n p
  rw [rE_y (P := isL b n) (fun _ => isL_lt) h]
  have : p + 1 ≤ rE (isL b n) n (p + 1) := (wl_le (b := b) (n := n) (p := p + 1) (isL_lt h)).1
  omega
theorem dg_lt {b : Nat → Nat} {n p : Nat} (h : isD b n p = true) : p < dg b n p := by
  show p < rE (isD b n) n p
  rw [rE_y (P := isD b n) (fun _ => isD_lt) h]
  have : p + 1 ≤ rE (isD b n) n (p + 1) := (dg_le (b := b) (n := n) (p := p + 1) (isD_lt h)).1
  omega
/-- the value of k digits -/
def vl (b : Nat → Nat) (q : Nat) : Nat → Nat
  | 0 => 0
  | k + 1 => vl b q k * 10 + b (q + k) - 48
theorem vl_lt {b : Nat → Nat} {n q : Nat} : ∀ k, (∀ i, q ≤ i → i < q + k → isD b n i = true) → vl b q k < 10 ^ k := by
  intro k
  induction k with
  | zero => intro _; exact Nat.one_pos
  | succ k ih =>
    intro h
    have a := ih fun i h1 h2 => h i h1 (by omega)
    have c := (of_decide_eq_true (h (q + k) (by omega) (by omega))).2
    show vl b q k * 10 + b (q + k) - 48 < 10 ^ (k + 1)
    rw [Nat.pow_succ]
    omega
def nvA (b : Nat → Nat) (q i : Nat) : Int32 := if i - q ≤ 5 then nI (vl b q (i - q)) else -1
theorem nvA_s {b : Nat → Nat} {q i : Nat} (hq : q ≤ i) (h5 : i - q < 5) (h48 : 48 ≤ b i) : (nvA b q i * 10 + nI (b i)) - 48 = nvA b q (i + 1) := by
  unfold nvA
  rw [if_pos (by omega), if_pos (by omega), show i + 1 - q = (i - q) + 1 by omega]
  show _ = nI (vl b q (i - q) * 10 + b (q + (i - q)) - 48)
  rw [show q + (i - q) = i by omega]
  have e : nI (vl b q (i - q)) * 10 + nI (b i) = nI (vl b q (i - q) * 10 + b i) := by
    rw [show (10 : Int32) = nI 10 from rfl, ← nI_add, pk_mul]
  rw [e]
  obtain ⟨c, hc⟩ : ∃ c, vl b q (i - q) * 10 + b i = c + 48 := ⟨vl b q (i - q) * 10 + b i - 48, by omega⟩
  rw [hc, Nat.add_sub_cancel, ← nI_add, show (48 : Int32) = nI 48 from rfl]
  exact Int32.add_sub_cancel _ _
theorem nvA_m {b : Nat → Nat} {q i : Nat} (h5 : ¬ i - q < 5) (hq : q ≤ i) : (-1 : Int32) = nvA b q (i + 1) := by
  unfold nvA
  rw [if_neg (by omega)]
/-! the piece at q -/
def sgB (b : Nat → Nat) (n q : Nat) : Bool := decide ((b q = 60 ∨ b q = 62) ∧ q + 1 < n ∧ b (q + 1) = 61)
def kd (b : Nat → Nat) (n q : Nat) : Nat := if isL b n q = true then 1 else if isD b n q = true then 2 else if q < n then 3 else 0
def ed (b : Nat → Nat) (n q : Nat) : Nat := if isL b n q = true then wl b n q else if isD b n q = true then dg b n q else if q < n then (if sgB b n q = true then q + 2 else q + 1) else q
def sg (b : Nat → Nat) (n q : Nat) : Nat := if sgB b n q = true then b q + 256 else b q
def nv (b : Nat → Nat) (n q : Nat) : Int32 := nvA b q (dg b n q)
theorem ed_le {b : Nat → Nat} {n q : Nat} (hq : q ≤ n) : q ≤ ed b n q ∧ ed b n q ≤ n := by
  unfold ed
  split
  · exact wl_le hq
  · split
    · exact dg_le hq
    · split
      · split
        · next h => have := (of_decide_eq_true h).2.1; omega
        · omega
      · omega
def TP (I : Nat → Nat → Int32) (b : Nat → Nat) (n : Nat) : Prop := n ≤ 400 ∧ ∀ k, k < 400 → b k < 256 ∧ I 10 k = nI (b k) ∧ I 52 k = (nI (b k)).toInt8.toInt32
theorem TP.keep {I I' : Nat → Nat → Int32} {b : Nat → Nat} {n : Nat} (h : TP I b n) (e1 : ∀ k, I' 10 k = I 10 k) (e2 : ∀ k, I' 52 k = I 52 k) : TP I' b n := ⟨h.1, fun k hk => ⟨(h.2 k hk).1, (e1 k).trans (h.2 k hk).2.1, (e2 k).trans (h.2 k hk).2.2⟩⟩
theorem TpV.tp {I : Nat → Nat → Int32} (h : TpV I) : TP I (fun k => cl (I 10 k)) (cl (I 9 1)) ∧ I 9 1 = nI (cl (I 9 1)) ∧ I 51 1 = nI (cl (I 9 1)) := by
  obtain ⟨h1, h2, h3⟩ := h
  have := h1.2
  refine ⟨⟨by omega, fun k hk => ⟨(h3 k hk).1.2, (h3 k hk).1.1, ?_⟩⟩, h1.1, h2.trans h1.1⟩
  rw [(h3 k hk).2, ← (h3 k hk).1.1]
/-- where the class's Text stands: at a piece, or behind a fault -/
def TK (I : Nat → Nat → Int32) (b : Nat → Nat) (n q : Nat) : Prop := I 9 2 = nI q ∧ I 9 3 = nI (ed b n q) ∧ I 9 4 = nI (kd b n q) ∧ (kd b n q = 3 → I 9 5 = nI (sg b n q)) ∧ (kd b n q = 2 → I 9 6 = nv b n q) ∧ I 9 7 = 0 ∧ I 9 1 = nI n ∧ q ≤ n
def BK (I : Nat → Nat → Int32) (n e : Nat) : Prop := I 9 4 = 4 ∧ I 9 7 = nI e ∧ 0 < e ∧ e < 4000 ∧ I 9 1 = nI n
def CX (I : Nat → Nat → Int32) (b : Nat → Nat) (n : Nat) : Sum Nat Nat → Prop
  | .inl e => BK I n e
  | .inr q => TK I b n q
def nxT (b : Nat → Nat) (n : Nat) : Sum Nat Nat → Sum Nat Nat
  | .inl e => .inl e
  | .inr q => .inr (bk b n (ed b n q))
def flT (w : Nat) : Sum Nat Nat → Sum Nat Nat
  | .inl e => .inl e
  | .inr q => .inl (1 + 8 * q + w)
def F9 (I I' : Nat → Nat → Int32) : Prop := ∀ p k, p ≠ 9 → I' p k = I p k
theorem F9.rfl {I : Nat → Nat → Int32} : F9 I I := fun _ _ _ => Eq.refl _
theorem F9.trans {I I1 I2 : Nat → Nat → Int32} (h1 : F9 I I1) (h2 : F9 I1 I2) : F9 I I2 := fun p k h => (h2 p k h).trans (h1 p k h)
theorem F9.tp {I I' : Nat → Nat → Int32} {b : Nat → Nat} {n : Nat} (h : F9 I I') (t : TP I b n) : TP I' b n := t.keep (fun k => h 10 k (by omega)) (fun k => h 52 k (by omega))
theorem CX.keep {I I' : Nat → Nat → Int32} {b : Nat → Nat} {n : Nat} {t : Sum Nat Nat} (h : CX I b n t) (e : ∀ k, I' 9 k = I 9 k) : CX I' b n t := by
  cases t with
  | inl a => exact ⟨(e 4).trans h.1, (e 7).trans h.2.1, h.2.2.1, h.2.2.2.1, (e 1).trans h.2.2.2.2⟩
  | inr q => exact ⟨(e 2).trans h.1, (e 3).trans h.2.1, (e 4).trans h.2.2.1, fun k => (e 5).trans (h.2.2.2.1 k), fun k => (e 6).trans (h.2.2.2.2.1 k), (e 7).trans h.2.2.2.2.2.1, (e 1).trans h.2.2.2.2.2.2.1, h.2.2.2.2.2.2.2⟩
theorem kd_lt {b : Nat → Nat} {n q : Nat} : kd b n q < 4 := by
  unfold kd
  split
  · omega
  · split
    · omega
    · split <;> omega
