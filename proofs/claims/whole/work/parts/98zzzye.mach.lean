/-! RULES: the reference's stack of what is open, pure. -/
def sgth (s : Nat) : Nat := if s = 13 then 1 else if s = 12 then 2 else if s = 11 then 3 else 0
def stQ (k : Nat) : List Nat → Nat → List Nat × Nat × List It
  | [], d => ([], d, [])
  | s :: S, d => if k ≤ sgth s then ((stQ k S (if s = 11 then d + 1 else d)).1, (stQ k S (if s = 11 then d + 1 else d)).2.1, (s, 0) :: (stQ k S (if s = 11 then d + 1 else d)).2.2) else (s :: S, d, [])
theorem stQ_c {k s d : Nat} {S : List Nat} : stQ k (s :: S) d = if k ≤ sgth s then ((stQ k S (if s = 11 then d + 1 else d)).1, (stQ k S (if s = 11 then d + 1 else d)).2.1, (s, 0) :: (stQ k S (if s = 11 then d + 1 else d)).2.2) else (s :: S, d, []) := rfl
def apR (o : List It) (r : Sum Nat R3) : Sum Nat R3 := bdS r fun y => .inr (o ++ y.1, y.2.1, y.2.2)
theorem apR_a {o1 o2 : List It} {r : Sum Nat R3} : apR o1 (apR o2 r) = apR (o1 ++ o2) r := by
  cases r with
  | inl e => rfl
  | inr y =>
    show Sum.inr (o1 ++ (o2 ++ y.1), y.2.1, y.2.2) = Sum.inr (o1 ++ o2 ++ y.1, y.2.1, y.2.2)
    rw [List.append_assoc]
theorem apR_n {r : Sum Nat R3} : apR [] r = r := by
  cases r with
  | inl e => rfl
  | inr y => rfl
def MR (b : Nat → Nat) (n : Nat) : Nat → Bool → List Nat → Nat → Nat → Nat → Sum Nat R3 → Prop
  | 0, _, _, _, _, _, _ => False
  | k + 1, true, S, d, ma, p, r =>
    if tkB b n (bk b n p) wNot = true then (if d = 0 then r = .inl (1 + 8 * bk b n p + 2) else MR b n k true (11 :: S) (d - 1) ma (wl b n (bk b n p)) r)
    else if siT b n 91 (.inr (bk b n p)) = true then (if d = 0 then r = .inl (1 + 8 * bk b n p + 2) else MR b n k true (91 :: S) (d - 1) ma (bk b n p + 1) r)
    else (∃ e, coQ b n ma p = .inl e ∧ r = .inl e) ∨ ∃ z r', coQ b n ma p = .inr z ∧ r = apR (z.1 ++ (stQ 3 S d).2.2) r' ∧ MR b n k false (stQ 3 S d).1 (stQ 3 S d).2.1 z.2.1 z.2.2 r'
  | k + 1, false, S, d, ma, p, r =>
    if siT b n 93 (.inr (bk b n p)) = true ∧ 91 ∈ S then ∃ r', r = apR ((stQ 1 S d).2.2 ++ (stQ 3 (stQ 1 S d).1.tail ((stQ 1 S d).2.1 + 1)).2.2) r' ∧ MR b n k false (stQ 3 (stQ 1 S d).1.tail ((stQ 1 S d).2.1 + 1)).1 (stQ 3 (stQ 1 S d).1.tail ((stQ 1 S d).2.1 + 1)).2.1 ma (bk b n p + 1) r'
    else if tkB b n (bk b n p) wAnd = true then ∃ r', r = apR (stQ 2 S d).2.2 r' ∧ MR b n k true (12 :: (stQ 2 S d).1) (stQ 2 S d).2.1 ma (wl b n (bk b n p)) r'
    else if tkB b n (bk b n p) wOr = true then ∃ r', r = apR (stQ 1 S d).2.2 r' ∧ MR b n k true (13 :: (stQ 1 S d).1) (stQ 1 S d).2.1 ma (wl b n (bk b n p)) r'
    else if 91 ∈ S then r = .inl (1 + 8 * bk b n p) else r = .inr ((stQ 1 S d).2.2, ma, p)
theorem MR_A {b : Nat → Nat} {n k : Nat} {S : List Nat} {d ma p : Nat} {r : Sum Nat R3} : MR b n (k + 1) true S d ma p r =
    (if tkB b n (bk b n p) wNot = true then (if d = 0 then r = .inl (1 + 8 * bk b n p + 2) else MR b n k true (11 :: S) (d - 1) ma (wl b n (bk b n p)) r)
    else if siT b n 91 (.inr (bk b n p)) = true then (if d = 0 then r = .inl (1 + 8 * bk b n p + 2) else MR b n k true (91 :: S) (d - 1) ma (bk b n p + 1) r)
    else (∃ e, coQ b n ma p = .inl e ∧ r = .inl e) ∨ ∃ z r', coQ b n ma p = .inr z ∧ r = apR (z.1 ++ (stQ 3 S d).2.2) r' ∧ MR b n k false (stQ 3 S d).1 (stQ 3 S d).2.1 z.2.1 z.2.2 r') := rfl
theorem MR_B {b : Nat → Nat} {n k : Nat} {S : List Nat} {d ma p : Nat} {r : Sum Nat R3} : MR b n (k + 1) false S d ma p r =
    (if siT b n 93 (.inr (bk b n p)) = true ∧ 91 ∈ S then ∃ r', r = apR ((stQ 1 S d).2.2 ++ (stQ 3 (stQ 1 S d).1.tail ((stQ 1 S d).2.1 + 1)).2.2) r' ∧ MR b n k false (stQ 3 (stQ 1 S d).1.tail ((stQ 1 S d).2.1 + 1)).1 (stQ 3 (stQ 1 S d).1.tail ((stQ 1 S d).2.1 + 1)).2.1 ma (bk b n p + 1) r'
    else if tkB b n (bk b n p) wAnd = true then ∃ r', r = apR (stQ 2 S d).2.2 r' ∧ MR b n k true (12 :: (stQ 2 S d).1) (stQ 2 S d).2.1 ma (wl b n (bk b n p)) r'
    else if tkB b n (bk b n p) wOr = true then ∃ r', r = apR (stQ 1 S d).2.2 r' ∧ MR b n k true (13 :: (stQ 1 S d).1) (stQ 1 S d).2.1 ma (wl b n (bk b n p)) r'
    else if 91 ∈ S then r = .inl (1 + 8 * bk b n p) else r = .inr ((stQ 1 S d).2.2, ma, p)) := rfl
def ME (b : Nat → Nat) (n : Nat) (ph : Bool) (S : List Nat) (d ma p : Nat) (r : Sum Nat R3) : Prop := ∃ k, MR b n k ph S d ma p r
/-! the steps -/
theorem ME.nt {b : Nat → Nat} {n d ma p : Nat} {S : List Nat} {r : Sum Nat R3} (h : tkB b n (bk b n p) wNot = true) (hm : ME b n true (11 :: S) d ma (wl b n (bk b n p)) r) : ME b n true S (d + 1) ma p r := by
  obtain ⟨k, hk⟩ := hm
  refine ⟨k + 1, ?_⟩
  rw [MR_A, if_pos h, if_neg (Nat.succ_ne_zero d), Nat.add_sub_cancel]
  exact hk
theorem si_nL {b : Nat → Nat} {n q c : Nat} (hc : plS c) (h : siT b n c (.inr q) = true) : ¬ isL b n q = true := fun z => by
  have h1 := (siT_i hc).mp h
  have h2 := (of_decide_eq_true z).2
  have h3 := hc.2.1
  omega
theorem pl91 : plS 91 := ⟨by omega, by omega, by omega, by omega, by omega⟩
theorem pl93 : plS 93 := ⟨by omega, by omega, by omega, by omega, by omega⟩
theorem tk_nsi {b : Nat → Nat} {n q c : Nat} {w : List Nat} (hc : plS c) (h : tkB b n q w = true) : ¬ siT b n c (.inr q) = true := fun z => si_nL hc z (tk_iff.mp h).1
theorem ME.op {b : Nat → Nat} {n d ma p : Nat} {S : List Nat} {r : Sum Nat R3} (h : siT b n 91 (.inr (bk b n p)) = true) (hm : ME b n true (91 :: S) d ma (bk b n p + 1) r) : ME b n true S (d + 1) ma p r := by
  obtain ⟨k, hk⟩ := hm
  refine ⟨k + 1, ?_⟩
  rw [MR_A, if_neg (fun z => tk_nsi pl91 z h), if_pos h, if_neg (Nat.succ_ne_zero d), Nat.add_sub_cancel]
  exact hk
theorem ME.dp {b : Nat → Nat} {n ma p : Nat} {S : List Nat} (h : siT b n 91 (.inr (bk b n p)) = true ∨ tkB b n (bk b n p) wNot = true) : ME b n true S 0 ma p (.inl (1 + 8 * bk b n p + 2)) := by
  refine ⟨1, ?_⟩
  rw [MR_A]
  by_cases g : tkB b n (bk b n p) wNot = true
  · rw [if_pos g, if_pos rfl]
  · rw [if_neg g, if_pos (h.resolve_right g), if_pos rfl]
theorem ME.ce {b : Nat → Nat} {n d ma p e : Nat} {S : List Nat} (h1 : ¬ tkB b n (bk b n p) wNot = true) (h2 : ¬ siT b n 91 (.inr (bk b n p)) = true) (hc : coQ b n ma p = .inl e) : ME b n true S d ma p (.inl e) := by
  refine ⟨1, ?_⟩
  rw [MR_A, if_neg h1, if_neg h2]
  exact Or.inl ⟨e, hc, rfl⟩
theorem ME.cr {b : Nat → Nat} {n d ma p : Nat} {S : List Nat} {z : R3} {r : Sum Nat R3} (h1 : ¬ tkB b n (bk b n p) wNot = true) (h2 : ¬ siT b n 91 (.inr (bk b n p)) = true) (hc : coQ b n ma p = .inr z) (hm : ME b n false (stQ 3 S d).1 (stQ 3 S d).2.1 z.2.1 z.2.2 r) : ME b n true S d ma p (apR (z.1 ++ (stQ 3 S d).2.2) r) := by
  obtain ⟨k, hk⟩ := hm
  refine ⟨k + 1, ?_⟩
  rw [MR_A, if_neg h1, if_neg h2]
  exact Or.inr ⟨z, r, hc, rfl, hk⟩
theorem ME.cl {b : Nat → Nat} {n d ma p : Nat} {S : List Nat} {r : Sum Nat R3} (h : siT b n 93 (.inr (bk b n p)) = true) (h9 : 91 ∈ S) (hm : ME b n false (stQ 3 (stQ 1 S d).1.tail ((stQ 1 S d).2.1 + 1)).1 (stQ 3 (stQ 1 S d).1.tail ((stQ 1 S d).2.1 + 1)).2.1 ma (bk b n p + 1) r) : ME b n false S d ma p (apR ((stQ 1 S d).2.2 ++ (stQ 3 (stQ 1 S d).1.tail ((stQ 1 S d).2.1 + 1)).2.2) r) := by
  obtain ⟨k, hk⟩ := hm
  refine ⟨k + 1, ?_⟩
  rw [MR_B, if_pos ⟨h, h9⟩]
  exact ⟨r, rfl, hk⟩
theorem ME.ja {b : Nat → Nat} {n d ma p : Nat} {S : List Nat} {r : Sum Nat R3} (h : tkB b n (bk b n p) wAnd = true) (hm : ME b n true (12 :: (stQ 2 S d).1) (stQ 2 S d).2.1 ma (wl b n (bk b n p)) r) : ME b n false S d ma p (apR (stQ 2 S d).2.2 r) := by
  obtain ⟨k, hk⟩ := hm
  refine ⟨k + 1, ?_⟩
  rw [MR_B, if_neg (fun z => tk_nsi pl93 h z.1), if_pos h]
  exact ⟨r, rfl, hk⟩
theorem ME.jo {b : Nat → Nat} {n d ma p : Nat} {S : List Nat} {r : Sum Nat R3} (ha : ¬ tkB b n (bk b n p) wAnd = true) (h : tkB b n (bk b n p) wOr = true) (hm : ME b n true (13 :: (stQ 1 S d).1) (stQ 1 S d).2.1 ma (wl b n (bk b n p)) r) : ME b n false S d ma p (apR (stQ 1 S d).2.2 r) := by
  obtain ⟨k, hk⟩ := hm
  refine ⟨k + 1, ?_⟩
  rw [MR_B, if_neg (fun z => tk_nsi pl93 h z.1), if_neg ha, if_pos h]
  exact ⟨r, rfl, hk⟩
theorem ME.ie {b : Nat → Nat} {n d ma p : Nat} {S : List Nat} (h3 : ¬ siT b n 93 (.inr (bk b n p)) = true) (ha : ¬ tkB b n (bk b n p) wAnd = true) (ho : ¬ tkB b n (bk b n p) wOr = true) (h9 : 91 ∈ S) : ME b n false S d ma p (.inl (1 + 8 * bk b n p)) := by
  refine ⟨1, ?_⟩
  rw [MR_B, if_neg (fun z => h3 z.1), if_neg ha, if_neg ho, if_pos h9]
theorem ME.fi {b : Nat → Nat} {n d ma p : Nat} {S : List Nat} (ha : ¬ tkB b n (bk b n p) wAnd = true) (ho : ¬ tkB b n (bk b n p) wOr = true) (h9 : ¬ 91 ∈ S) : ME b n false S d ma p (.inr ((stQ 1 S d).2.2, ma, p)) := by
  refine ⟨1, ?_⟩
  rw [MR_B, if_neg (fun z => h9 z.2), if_neg ha, if_neg ho, if_neg h9]
/-! what lies on top -/
def Tk (k : Nat) (S : List Nat) : Prop := ∀ s S', S = s :: S' → sgth s < k
theorem Tk.n {k : Nat} : Tk k [] := fun s S' h => by cases h
theorem Tk.c {k s : Nat} {S : List Nat} (h : sgth s < k) : Tk k (s :: S) := fun t S' e => by cases e; exact h
theorem Tk.st {k d : Nat} {S : List Nat} (h : Tk k S) : stQ k S d = (S, d, []) := by
  cases S with
  | nil => rfl
  | cons s S => rw [stQ_c, if_neg (by have := h s S rfl; omega)]
theorem Tk.m {k l : Nat} {S : List Nat} (h : Tk k S) (hl : k ≤ l) : Tk l S := fun s S' e => Nat.lt_of_lt_of_le (h s S' e) hl
abbrev rp (k : Nat) : List Nat := List.replicate k 11
theorem st_nots {S : List Nat} (h : Tk 3 S) : ∀ (j d : Nat), stQ 3 (rp j ++ S) d = (S, d + j, ntL j) := by
  intro j
  induction j with
  | zero => intro d; exact h.st
  | succ j ih =>
    intro d
    have e : rp (j + 1) ++ S = 11 :: (rp j ++ S) := rfl
    rw [e, stQ_c, if_pos (by decide), if_pos rfl, ih (d + 1)]
    show (S, d + 1 + j, (11, 0) :: ntL j) = (S, d + (j + 1), ntL (j + 1))
    rw [show d + 1 + j = d + (j + 1) by omega]
    rfl
def pI (l : List Nat) : List It := l.map fun s => (s, 0)
theorem st_12 {X Q : List Nat} {d : Nat} (h : Tk 2 X) (hQ : Q = [] ∨ Q = [12]) : stQ 2 (Q ++ X) d = (X, d, pI Q) := by
  rcases hQ with rfl | rfl
  · exact h.st
  · show stQ 2 (12 :: X) d = _
    rw [stQ_c, if_pos (by decide), if_neg (by decide), h.st]
    rfl
theorem st_pq {S P Q : List Nat} {d : Nat} (h : Tk 1 S) (hP : P = [] ∨ P = [13]) (hQ : Q = [] ∨ Q = [12]) : stQ 1 (Q ++ (P ++ S)) d = (S, d, pI Q ++ pI P) := by
  rcases hQ with rfl | rfl <;> rcases hP with rfl | rfl
  · exact h.st
  · show stQ 1 (13 :: S) d = _
    rw [stQ_c, if_pos (by decide), if_neg (by decide), h.st]
    rfl
  · show stQ 1 (12 :: S) d = _
    rw [stQ_c, if_pos (by decide), if_neg (by decide), h.st]
    rfl
  · show stQ 1 (12 :: 13 :: S) d = _
    rw [stQ_c, if_pos (by decide), if_neg (by decide), stQ_c, if_pos (by decide), if_neg (by decide), h.st]
    rfl
/-! behind a chain of and; behind a test -/
def EA (b : Nat → Nat) (n : Nat) (X : List Nat) (d ma p : Nat) (r : Sum Nat R3) : Prop := ∀ Q, Q = [] ∨ Q = [12] → ME b n false (Q ++ X) d ma p (apR (pI Q) r)
def ET (b : Nat → Nat) (n : Nat) (S : List Nat) (d ma p : Nat) (r : Sum Nat R3) : Prop := ∀ P Q, P = [] ∨ P = [13] → Q = [] ∨ Q = [12] → ME b n false (Q ++ (P ++ S)) d ma p (apR (pI Q ++ pI P) r)
theorem ET.a {b : Nat → Nat} {n d ma p : Nat} {S P : List Nat} {r : Sum Nat R3} (h : ET b n S d ma p r) (hP : P = [] ∨ P = [13]) : EA b n (P ++ S) d ma p (apR (pI P) r) := fun Q hQ => by
  rw [apR_a]
  exact h P Q hP hQ
theorem EA.t {b : Nat → Nat} {n d ma p : Nat} {S : List Nat} {r : Sum Nat R3} (h : ∀ P, P = [] ∨ P = [13] → EA b n (P ++ S) d ma p (apR (pI P) r)) : ET b n S d ma p r := fun P Q hP hQ => by
  have := h P hP Q hQ
  rw [apR_a] at this
  exact this
def nAO (b : Nat → Nat) (n p : Nat) : Prop := ¬ tkB b n (bk b n p) wAnd = true ∧ ¬ tkB b n (bk b n p) wOr = true
/-- a test is read as T says -/
def TO (b : Nat → Nat) (n d : Nat) (T : Nat → Nat → Sum Nat R4) : Prop := ∀ (ma p : Nat) (S : List Nat), ma ≤ 60 → p ≤ n → Tk 1 S → (∀ e, T ma p = .inl e → ME b n true S d ma p (.inl e)) ∧ ∀ z, T ma p = .inr z → nAO b n z.2.2.2 ∧ ∀ r, ET b n S d z.2.2.1 z.2.2.2 r → ME b n true S d ma p (apR z.1 r)
def FO (b : Nat → Nat) (n d : Nat) (F : Nat → Nat → Sum Nat R4) : Prop := ∀ (ma p : Nat) (Y : List Nat), ma ≤ 60 → p ≤ n → Tk 3 Y → (∀ e, F ma p = .inl e → ME b n true Y d ma p (.inl e)) ∧ ∀ z, F ma p = .inr z → ∀ r, ME b n false Y d z.2.2.1 z.2.2.2 r → ME b n true Y d ma p (apR z.1 r)
def CO (b : Nat → Nat) (n d : Nat) (F : Nat → Nat → Sum Nat R4) : Prop := ∀ (ma p : Nat) (X : List Nat), ma ≤ 60 → p ≤ n → Tk 2 X → (∀ e, F ma p = .inl e → ME b n true X d ma p (.inl e)) ∧ ∀ z, F ma p = .inr z → ¬ tkB b n (bk b n z.2.2.2) wAnd = true ∧ ∀ r, EA b n X d z.2.2.1 z.2.2.2 r → ME b n true X d ma p (apR z.1 r)
theorem rep_s {k : Nat} {S : List Nat} : rp (k + 1) ++ S = rp k ++ 11 :: S := by
  induction k with
  | zero => rfl
  | succ k ih =>
    show 11 :: (rp (k + 1) ++ S) = 11 :: (rp k ++ 11 :: S)
    rw [ih]
theorem me_nots {b : Nat → Nat} {n ma : Nat} {r : Sum Nat R3} : ∀ (d p : Nat) (S : List Nat), ME b n true (rp (ntQ b n d p).1 ++ S) (d - (ntQ b n d p).1) ma (ntQ b n d p).2 r → ME b n true S d ma p r := by
  intro d
  induction d with
  | zero => intro p S h; exact h
  | succ d ih =>
    intro p S
    rw [ntQ_s]
    by_cases g : tkB b n (bk b n p) wNot = true
    · rw [if_pos g]
      intro h
      refine ME.nt g (ih (wl b n (bk b n p)) (11 :: S) ?_)
      rw [← rep_s]
      have e : d + 1 - ((ntQ b n d (wl b n (bk b n p))).1 + 1) = d - (ntQ b n d (wl b n (bk b n p))).1 := by omega
      have h : ME b n true (rp ((ntQ b n d (wl b n (bk b n p))).1 + 1) ++ S) (d + 1 - ((ntQ b n d (wl b n (bk b n p))).1 + 1)) ma (ntQ b n d (wl b n (bk b n p))).2 r := h
      rw [e] at h
      exact h
    · rw [if_neg g]
      intro h
      exact h
theorem nt_end {b : Nat → Nat} {n : Nat} : ∀ (d p : Nat), d - (ntQ b n d p).1 = 0 ∨ ¬ tkB b n (bk b n (ntQ b n d p).2) wNot = true := by
  intro d
  induction d with
  | zero => intro p; exact Or.inl rfl
  | succ d ih =>
    intro p
    rw [ntQ_s]
    by_cases g : tkB b n (bk b n p) wNot = true
    · rw [if_pos g]
      rcases ih (wl b n (bk b n p)) with h | h
      · left
        show d + 1 - ((ntQ b n d (wl b n (bk b n p))).1 + 1) = 0
        omega
      · exact Or.inr h
    · rw [if_neg g]
      exact Or.inr g
theorem fo_fa {T : Nat → Nat → Nat → Sum Nat R4} {b : Nat → Nat} {n d : Nat} (hT : ∀ d', d' < d → TO b n d' (T d')) : FO b n d (faG T b n d) := by
  intro ma p Y hma hp hY
  unfold faG
  obtain ⟨a1, a2, a3⟩ := nt_ok (b := b) (n := n) d p hp
  have a4 := nt_end (b := b) (n := n) d p
  have key := fun r => me_nots (b := b) (n := n) (ma := ma) (r := r) d p Y
  obtain ⟨k, ek⟩ : ∃ k, k = (ntQ b n d p).1 := ⟨_, rfl⟩
  obtain ⟨p1, ep⟩ : ∃ p1, p1 = (ntQ b n d p).2 := ⟨_, rfl⟩
  rw [← ek] at a1 a3 a4 key ⊢
  rw [← ep] at a2 a3 a4 key ⊢
  have hq := bk_le (b := b) a2
  by_cases c1 : d - k = 0 ∧ (siT b n 91 (.inr (bk b n p1)) = true ∨ tkB b n (bk b n p1) wNot = true)
  · rw [if_pos c1]
    refine ⟨fun e h => ?_, fun z h => (by cases h)⟩
    cases h
    refine key _ ?_
    rw [c1.1]
    exact ME.dp c1.2
  · rw [if_neg c1]
    by_cases c2 : siT b n 91 (.inr (bk b n p1)) = true
    · rw [if_pos c2]
      have qn := si_lt c2
      have dk : ¬ d - k = 0 := fun z => c1 ⟨z, Or.inl c2⟩
      have t0 : Tk 1 (91 :: (rp k ++ Y)) := Tk.c (by decide)
      obtain ⟨k1, k2⟩ := hT (d - k - 1) (by omega) ma (bk b n p1 + 1) (91 :: (rp k ++ Y)) hma (by omega) t0
      have key2 : ∀ r, ME b n true (91 :: (rp k ++ Y)) (d - k - 1) ma (bk b n p1 + 1) r → ME b n true Y d ma p r := fun r h => by
        refine key r ?_
        have := ME.op (d := d - k - 1) c2 h
        rw [show d - k - 1 + 1 = d - k by omega] at this
        exact this
      cases h1 : T (d - k - 1) ma (bk b n p1 + 1) with
      | inl e1 =>
        rw [bdS_l rfl]
        exact ⟨fun e h => by cases h; exact key2 _ (k1 _ h1), fun z h => (by cases h)⟩
      | inr z =>
        rw [bdS_r rfl]
        obtain ⟨z1, z2⟩ := k2 z h1
        have m91 : ∀ P Q : List Nat, 91 ∈ Q ++ (P ++ 91 :: (rp k ++ Y)) := fun P Q => by
          simp
        by_cases c3 : siT b n 93 (.inr (bk b n z.2.2.2)) = true
        · rw [if_pos c3]
          refine ⟨fun e h => (by cases h), fun x h r hr => ?_⟩
          cases h
          show ME b n true Y d ma p (apR (z.1 ++ ntL k) r)
          rw [← apR_a]
          refine key2 _ (z2 _ fun P Q hP hQ => ?_)
          have e1 := st_pq (d := d - k - 1) t0 hP hQ
          have e3 := st_nots hY k (d - k - 1 + 1)
          have := ME.cl (d := d - k - 1) (ma := z.2.2.1) (r := r) c3 (m91 P Q) (by
            rw [e1]
            show ME b n false (stQ 3 (rp k ++ Y) (d - k - 1 + 1)).1 (stQ 3 (rp k ++ Y) (d - k - 1 + 1)).2.1 _ _ _
            rw [e3]
            show ME b n false Y (d - k - 1 + 1 + k) _ _ _
            rw [show d - k - 1 + 1 + k = d by omega]
            exact hr)
          rw [e1] at this
          have this : ME b n false (Q ++ (P ++ 91 :: (rp k ++ Y))) (d - k - 1) z.2.2.1 z.2.2.2 (apR ((pI Q ++ pI P) ++ (stQ 3 (rp k ++ Y) (d - k - 1 + 1)).2.2) r) := this
          rw [e3] at this
          rw [apR_a]
          exact this
        · rw [if_neg c3]
          refine ⟨fun e h => ?_, fun x h => (by cases h)⟩
          cases h
          have := key2 (apR z.1 (.inl (1 + 8 * bk b n z.2.2.2))) (z2 _ fun P Q hP hQ => ME.ie c3 z1.1 z1.2 (m91 P Q))
          exact this
    · rw [if_neg c2]
      have nn : ¬ tkB b n (bk b n p1) wNot = true := fun z => a4.elim (fun w => c1 ⟨w, Or.inr z⟩) (fun w => w z)
      have e3 := st_nots hY k (d - k)
      cases h1 : coQ b n ma p1 with
      | inl e1 =>
        rw [bdS_l rfl]
        exact ⟨fun e h => by cases h; exact key _ (ME.ce nn c2 h1), fun z h => (by cases h)⟩
      | inr z =>
        rw [bdS_r rfl]
        refine ⟨fun e h => (by cases h), fun x h r hr => ?_⟩
        cases h
        show ME b n true Y d ma p (apR (z.1 ++ ntL k) r)
        refine key _ ?_
        have := ME.cr (S := rp k ++ Y) (d := d - k) (r := r) nn c2 h1 (by
          rw [e3]
          show ME b n false Y (d - k + k) _ _ _
          rw [show d - k + k = d by omega]
          exact hr)
        rw [e3] at this
        exact this
/-- the loop over and -/
theorem co_lp {F : Nat → Nat → Sum Nat R4} {b : Nat → Nat} {n d : Nat} (hF : FO b n d F) (hOk : OkQ n F) : ∀ (f ma p : Nat) (X : List Nat), 61 ≤ ma + f → ma ≤ 60 → p ≤ n → Tk 2 X → (∀ e, lpW wAnd 12 F b n f ma p = .inl e → ∀ Q, Q = [] ∨ Q = [12] → ME b n false (Q ++ X) d ma p (.inl e)) ∧ ∀ z, lpW wAnd 12 F b n f ma p = .inr z → ¬ tkB b n (bk b n z.2.2.2) wAnd = true ∧ ∀ r, EA b n X d z.2.2.1 z.2.2.2 r → EA b n X d ma p (apR z.1 r) := by
  intro f
  induction f with
  | zero => intro ma p X hf hma; exact absurd hf (by omega)
  | succ f ih =>
    intro ma p X hf hma hp hX
    rw [lpW_s]
    by_cases h0 : tkB b n (bk b n p) wAnd = true
    · rw [if_pos h0]
      have hq := bk_le (b := b) hp
      have w2 := (wl_le (b := b) hq.2).2
      have t3 : Tk 3 (12 :: X) := Tk.c (by decide)
      obtain ⟨k1, k2⟩ := hF ma (wl b n (bk b n p)) (12 :: X) hma w2 t3
      have step : ∀ r, ME b n true (12 :: X) d ma (wl b n (bk b n p)) r → EA b n X d ma p r := fun r h Q hQ => by
        have e := st_12 (d := d) hX hQ
        have := ME.ja (S := Q ++ X) (d := d) (r := r) h0 (by rw [e]; exact h)
        rw [e] at this
        exact this
      have g1 := (hOk ma (wl b n (bk b n p)) hma w2).1
      cases h1 : F ma (wl b n (bk b n p)) with
      | inl e1 =>
        rw [bdS_l rfl]
        exact ⟨fun e h Q hQ => by cases h; exact step _ (k1 _ h1) Q hQ, fun z h => (by cases h)⟩
      | inr z =>
        rw [bdS_r rfl]
        obtain ⟨z1, z2, z3, _⟩ := g1 z h1
        obtain ⟨i1, i2⟩ := ih z.2.2.1 z.2.2.2 X (by omega) z2 z3 hX
        cases h2 : lpW wAnd 12 F b n f z.2.2.1 z.2.2.2 with
        | inl e1 =>
          rw [bdS_l rfl]
          refine ⟨fun e h Q hQ => ?_, fun z h => (by cases h)⟩
          cases h
          exact step (.inl e1) (k2 z h1 (.inl e1) (i1 e1 h2 [12] (Or.inr rfl))) Q hQ
        | inr y =>
          rw [bdS_r rfl]
          obtain ⟨y1, y2⟩ := i2 y h2
          refine ⟨fun e h => (by cases h), fun x h => ?_⟩
          cases h
          refine ⟨y1, fun r hr => ?_⟩
          show EA b n X d ma p (apR (z.1 ++ [(12, 0)] ++ y.1) r)
          refine step _ ?_
          rw [List.append_assoc, ← apR_a]
          refine k2 z h1 _ ?_
          have := y2 r hr [12] (Or.inr rfl)
          rw [apR_a] at this
          exact this
    · rw [if_neg h0]
      refine ⟨fun e h => (by cases h), fun z h => ?_⟩
      cases h
      refine ⟨h0, fun r hr => ?_⟩
      show EA b n X d ma p (apR [] r)
      rw [apR_n]
      exact hr
theorem co_fw {F : Nat → Nat → Sum Nat R4} {b : Nat → Nat} {n d : Nat} (hF : FO b n d F) (hOk : OkQ n F) : CO b n d (fwW wAnd 12 F b n) := by
  intro ma p X hma hp hX
  unfold fwW
  obtain ⟨k1, k2⟩ := hF ma p X hma hp (hX.m (by omega))
  cases h1 : F ma p with
  | inl e1 =>
    rw [bdS_l rfl]
    exact ⟨fun e h => by cases h; exact k1 _ h1, fun z h => (by cases h)⟩
  | inr z =>
    rw [bdS_r rfl]
    obtain ⟨z1, z2, z3, _⟩ := (hOk ma p hma hp).1 z h1
    obtain ⟨i1, i2⟩ := co_lp hF hOk 61 z.2.2.1 z.2.2.2 X (by omega) z2 z3 hX
    cases h2 : lpW wAnd 12 F b n 61 z.2.2.1 z.2.2.2 with
    | inl e1 =>
      rw [bdS_l rfl]
      refine ⟨fun e h => ?_, fun z h => (by cases h)⟩
      cases h
      exact k2 z h1 (.inl e1) (i1 e1 h2 [] (Or.inl rfl))
    | inr y =>
      rw [bdS_r rfl]
      obtain ⟨y1, y2⟩ := i2 y h2
      refine ⟨fun e h => (by cases h), fun x h => ?_⟩
      cases h
      refine ⟨y1, fun r hr => ?_⟩
      show ME b n true X d ma p (apR (z.1 ++ y.1) r)
      rw [← apR_a]
      refine k2 z h1 _ ?_
      have := y2 r hr [] (Or.inl rfl)
      rw [show apR (pI []) (apR y.1 r) = apR y.1 r from apR_n] at this
      exact this
/-- the loop over or -/
theorem to_lp {C : Nat → Nat → Sum Nat R4} {b : Nat → Nat} {n d : Nat} (hC : CO b n d C) (hOk : OkQ n C) : ∀ (f ma p : Nat) (S : List Nat), 61 ≤ ma + f → ma ≤ 60 → p ≤ n → Tk 1 S → ¬ tkB b n (bk b n p) wAnd = true → (∀ e, lpW wOr 13 C b n f ma p = .inl e → ∀ P Q, P = [] ∨ P = [13] → Q = [] ∨ Q = [12] → ME b n false (Q ++ (P ++ S)) d ma p (.inl e)) ∧ ∀ z, lpW wOr 13 C b n f ma p = .inr z → nAO b n z.2.2.2 ∧ ∀ r, ET b n S d z.2.2.1 z.2.2.2 r → ET b n S d ma p (apR z.1 r) := by
  intro f
  induction f with
  | zero => intro ma p S hf hma; exact absurd hf (by omega)
  | succ f ih =>
    intro ma p S hf hma hp hS na
    rw [lpW_s]
    by_cases h0 : tkB b n (bk b n p) wOr = true
    · rw [if_pos h0]
      have hq := bk_le (b := b) hp
      have w2 := (wl_le (b := b) hq.2).2
      have t2 : Tk 2 (13 :: S) := Tk.c (by decide)
      obtain ⟨k1, k2⟩ := hC ma (wl b n (bk b n p)) (13 :: S) hma w2 t2
      have step : ∀ r, ME b n true (13 :: S) d ma (wl b n (bk b n p)) r → ET b n S d ma p r := fun r h P Q hP hQ => by
        have e := st_pq (d := d) hS hP hQ
        have := ME.jo (S := Q ++ (P ++ S)) (d := d) (r := r) na h0 (by rw [e]; exact h)
        rw [e] at this
        exact this
      have g1 := (hOk ma (wl b n (bk b n p)) hma w2).1
      cases h1 : C ma (wl b n (bk b n p)) with
      | inl e1 =>
        rw [bdS_l rfl]
        exact ⟨fun e h P Q hP hQ => by cases h; exact step _ (k1 _ h1) P Q hP hQ, fun z h => (by cases h)⟩
      | inr z =>
        rw [bdS_r rfl]
        obtain ⟨z1, z2, z3, _⟩ := g1 z h1
        obtain ⟨c1, c2⟩ := k2 z h1
        obtain ⟨i1, i2⟩ := ih z.2.2.1 z.2.2.2 S (by omega) z2 z3 hS c1
        cases h2 : lpW wOr 13 C b n f z.2.2.1 z.2.2.2 with
        | inl e1 =>
          rw [bdS_l rfl]
          refine ⟨fun e h P Q hP hQ => ?_, fun z h => (by cases h)⟩
          cases h
          exact step (.inl e1) (c2 (.inl e1) fun Q' hQ' => i1 e1 h2 [13] Q' (Or.inr rfl) hQ') P Q hP hQ
        | inr y =>
          rw [bdS_r rfl]
          obtain ⟨y1, y2⟩ := i2 y h2
          refine ⟨fun e h => (by cases h), fun x h => ?_⟩
          cases h
          refine ⟨y1, fun r hr => ?_⟩
          show ET b n S d ma p (apR (z.1 ++ [(13, 0)] ++ y.1) r)
          refine step _ ?_
          rw [List.append_assoc, ← apR_a]
          refine c2 _ ?_
          have := (y2 r hr).a (P := [13]) (Or.inr rfl)
          rw [apR_a] at this
          exact this
    · rw [if_neg h0]
      refine ⟨fun e h => (by cases h), fun z h => ?_⟩
      cases h
      refine ⟨⟨na, h0⟩, fun r hr => ?_⟩
      show ET b n S d ma p (apR [] r)
      rw [apR_n]
      exact hr
theorem to_fw {C : Nat → Nat → Sum Nat R4} {b : Nat → Nat} {n d : Nat} (hC : CO b n d C) (hOk : OkQ n C) : TO b n d (fwW wOr 13 C b n) := by
  intro ma p S hma hp hS
  unfold fwW
  obtain ⟨k1, k2⟩ := hC ma p S hma hp (hS.m (by omega))
  cases h1 : C ma p with
  | inl e1 =>
    rw [bdS_l rfl]
    exact ⟨fun e h => by cases h; exact k1 _ h1, fun z h => (by cases h)⟩
  | inr z =>
    rw [bdS_r rfl]
    obtain ⟨z1, z2, z3, _⟩ := (hOk ma p hma hp).1 z h1
    obtain ⟨c1, c2⟩ := k2 z h1
    obtain ⟨i1, i2⟩ := to_lp hC hOk 61 z.2.2.1 z.2.2.2 S (by omega) z2 z3 hS c1
    cases h2 : lpW wOr 13 C b n 61 z.2.2.1 z.2.2.2 with
    | inl e1 =>
      rw [bdS_l rfl]
      refine ⟨fun e h => ?_, fun z h => (by cases h)⟩
      cases h
      exact c2 (.inl e1) fun Q hQ => i1 e1 h2 [] Q (Or.inl rfl) hQ
    | inr y =>
      rw [bdS_r rfl]
      obtain ⟨y1, y2⟩ := i2 y h2
      refine ⟨fun e h => (by cases h), fun x h => ?_⟩
      cases h
      refine ⟨y1, fun r hr => ?_⟩
      show ME b n true S d ma p (apR (z.1 ++ y.1) r)
      rw [← apR_a]
      refine c2 _ ?_
      have := (y2 r hr).a (P := []) (Or.inl rfl)
      rw [show apR (pI []) (apR y.1 r) = apR y.1 r from apR_n] at this
      exact this
theorem to_ts {b : Nat → Nat} {n : Nat} : ∀ (g d : Nat), d < g → TO b n d (tsF b n g d) := by
  intro g
  induction g with
  | zero => intro d h; exact absurd h (Nat.not_lt_zero _)
  | succ g ih =>
    intro d hd
    have hf : FO b n d (faG (tsF b n g) b n d) := fo_fa fun d' h => ih d' (by omega)
    have ok : OkQ n (faG (tsF b n g) b n d) := fa_ok fun d' h => ts_okQ g d' (by omega)
    have h : TO b n d (fwW wOr 13 (fwW wAnd 12 (faG (tsF b n g) b n d) b n) b n) := to_fw (co_fw hf ok) (fwW_ok (Or.inl rfl) ok)
    exact h
def r34 : Sum Nat R4 → Sum Nat R3
  | .inl e => .inl e
  | .inr z => .inr (z.1, z.2.2.1, z.2.2.2)
theorem me_ts {b : Nat → Nat} {n ma p : Nat} (hma : ma ≤ 60) (hp : p ≤ n) : ME b n true [] 10 ma p (r34 (tsF b n 11 10 ma p)) := by
  obtain ⟨k1, k2⟩ := to_ts (b := b) (n := n) 11 10 (by omega) ma p [] hma hp Tk.n
  cases h : tsF b n 11 10 ma p with
  | inl e => exact k1 e h
  | inr z =>
    obtain ⟨z1, z2⟩ := k2 z h
    have := z2 (.inr ([], z.2.2.1, z.2.2.2)) fun P Q hP hQ => by
      have e := st_pq (d := 10) (Tk.n (k := 1)) hP hQ
      have n9 : ¬ 91 ∈ Q ++ (P ++ []) := by
        rcases hQ with rfl | rfl <;> rcases hP with rfl | rfl <;> decide
      have := ME.fi (d := 10) (ma := z.2.2.1) z1.1 z1.2 n9
      rw [e] at this
      show ME b n false _ _ _ _ (Sum.inr ((pI Q ++ pI P) ++ [], z.2.2.1, z.2.2.2))
      rw [List.append_nil (pI Q ++ pI P)]
      exact this
    have e2 : apR z.1 (.inr ([], z.2.2.1, z.2.2.2)) = r34 (.inr z) := by
      show Sum.inr (z.1 ++ [], z.2.2.1, z.2.2.2) = Sum.inr (z.1, z.2.2.1, z.2.2.2)
      rw [List.append_nil]
    rw [e2] at this
    exact this
