/-! THE ORDER: what the reference orders is what the class orders, sifted. -/
def Srt (dy : Nat → Int32) (l : List Nat) : Prop := l.Pairwise (fun a b => dy b ≤ dy a)
theorem insL_srt {dy : Nat → Int32} {m : Nat} : ∀ {l : List Nat}, Srt dy l → Srt dy (insL dy m l) := by
  intro l
  induction l with
  | nil => intro _; simp [insL, Srt]
  | cons a l ih =>
    intro h
    have h1 := (List.pairwise_cons.mp h).1
    have h2 := (List.pairwise_cons.mp h).2
    unfold insL
    split
    · rename_i q
      refine List.pairwise_cons.mpr ⟨fun b hb => ?_, ih h2⟩
      rcases insL_mem hb with e | e
      · rw [e]; exact Int32.le_of_lt q
      · exact h1 b e
    · rename_i q
      refine List.pairwise_cons.mpr ⟨fun b hb => ?_, h⟩
      have q := Int32.not_lt.mp q
      rcases List.mem_cons.mp hb with e | e
      · rw [e]; exact q
      · exact Int32.le_trans (h1 b e) q
theorem ordL_srt {dy : Nat → Int32} : ∀ n, Srt dy (ordL dy n) := by
  intro n
  induction n with
  | zero => exact List.Pairwise.nil
  | succ n ih => exact insL_srt ih
theorem insL_hd {dy : Nat → Int32} {m : Nat} {l : List Nat} (h : ∀ a, a ∈ l → ¬ dy m < dy a) : insL dy m l = m :: l := by
  cases l with
  | nil => rfl
  | cons a l => exact if_neg (h a List.mem_cons_self)
theorem insL_fil {dy : Nat → Int32} {P : Nat → Bool} {x : Nat} : ∀ {l : List Nat}, Srt dy l → (insL dy x l).filter P = if P x = true then insL dy x (l.filter P) else l.filter P := by
  intro l
  induction l with
  | nil =>
    intro _
    by_cases p : P x = true
    · simp [insL, p]
    · simp [insL, p]
  | cons a l ih =>
    intro h
    have h1 := (List.pairwise_cons.mp h).1
    have h2 := (List.pairwise_cons.mp h).2
    by_cases q : dy x < dy a
    · rw [show insL dy x (a :: l) = a :: insL dy x l from if_pos q]
      by_cases pa : P a = true
      · rw [List.filter_cons_of_pos pa, List.filter_cons_of_pos pa, ih h2]
        by_cases p : P x = true
        · rw [if_pos p, if_pos p]
          exact (show insL dy x (a :: l.filter P) = a :: insL dy x (l.filter P) from if_pos q).symm
        · rw [if_neg p, if_neg p]
      · rw [List.filter_cons_of_neg pa, List.filter_cons_of_neg pa, ih h2]
    · rw [show insL dy x (a :: l) = x :: a :: l from if_neg q]
      by_cases p : P x = true
      · rw [List.filter_cons_of_pos p, if_pos p, insL_hd]
        intro b hb
        have hb := (List.mem_filter.mp hb).1
        have q := Int32.not_lt.mp q
        rcases List.mem_cons.mp hb with e | e
        · rw [e]; exact Int32.not_lt.mpr q
        · exact Int32.not_lt.mpr (Int32.le_trans (h1 b e) q)
      · rw [List.filter_cons_of_neg p, if_neg p]
theorem frL_eq {P : Nat → Bool} {dy : Nat → Int32} : ∀ n, frL P dy n = (ordL dy n).filter P := by
  intro n
  induction n with
  | zero => rfl
  | succ n ih =>
    rw [ordL, insL_fil (ordL_srt n), ← ih]
    rfl
/-! the FIRST DAY over a list -/
def fdL (w1 w2 : Nat → Nat) (s : Nat → Int32) (g : Nat) : List Nat → Nat → Int32 × Nat
  | [], r => (-2, r)
  | j :: l, r => if g.testBit j = true then fdL w1 w2 s g l r else if (r.testBit (mA s j) = true ∧ w1 j = 2) ∨ (r.testBit (mB s j) = true ∧ w2 j = 2) then (s (56 + 3 * j), r) else fdL w1 w2 s g l (fdS (w1 j) (w2 j) (mA s j) (mB s j) r)
theorem fdC_L {w1 w2 : Nat → Nat} {s : Nat → Int32} {g m : Nat} : ∀ (k i r : Nat), i + k = m → fdC (fun k => w1 (mO s m k)) (fun k => w2 (mO s m k)) (fun k => mA s (mO s m k)) (fun k => mB s (mO s m k)) (mO s m) (fun k => s (56 + 3 * mO s m k)) g k i r = fdL w1 w2 s g ((ordL (fun i => s (56 + 3 * i)) m).reverse.drop i) r := by
  intro k
  have hl : (ordL (fun i => s (56 + 3 * i)) m).reverse.length = m := by rw [List.length_reverse, ordL_len]
  induction k with
  | zero =>
    intro i r hi
    rw [List.drop_of_length_le (by omega)]
    rfl
  | succ k ih =>
    intro i r hi
    have hil : i < (ordL (fun i => s (56 + 3 * i)) m).reverse.length := by omega
    have e : (ordL (fun i => s (56 + 3 * i)) m).reverse[i] = mO s m i := by
      rw [List.getElem_reverse]
      unfold mO ordK
      have h3 : m - 1 - i < (ordL (fun i => s (56 + 3 * i)) m).length := by rw [ordL_len]; omega
      rw [List.getD_eq_getElem?_getD, List.getElem?_eq_getElem h3]
      simp [ordL_len]
    rw [List.drop_eq_getElem_cons hil, e, fdC, fdL, ih (i + 1) _ (by omega), ih (i + 1) _ (by omega)]
theorem fdL_0 {w1 w2 : Nat → Nat} {s : Nat → Int32} {g : Nat} : ∀ {l : List Nat} {r : Nat}, (∀ j, j ∈ l → w1 j = 0 ∧ w2 j = 0) → fdL w1 w2 s g l r = (-2, r) := by
  intro l
  induction l with
  | nil => intro r _; rfl
  | cons j l ih =>
    intro r h
    obtain ⟨a, b⟩ := h j List.mem_cons_self
    have hl := fun k hk => h k (List.mem_cons_of_mem j hk)
    rw [fdL, a, b]
    have e : fdS 0 0 (mA s j) (mB s j) r = r := by
      unfold fdS
      rw [if_neg (by omega), if_neg (by omega)]
    by_cases q : g.testBit j = true
    · rw [if_pos q, ih hl]
    · rw [if_neg q, if_neg (by omega), e, ih hl]
