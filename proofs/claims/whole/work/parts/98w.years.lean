/-! YEARS with drawn meetings: both sides come out alike. -/
def rwY (s : Nat → Int32) (m a b : Nat) : Nat → Int32 := fu (fu (fu (fu s (56 + 3 * m) (s 3)) (56 + 3 * m + 1) (nI a)) (56 + 3 * m + 2) (nI b)) 2 (nI (if a = b then m else m + 1))
theorem rwY_o (s : Nat → Int32) {m a b i : Nat} (h2 : i ≠ 2) (h : i < 56 + 3 * m ∨ 56 + 3 * m + 3 ≤ i) : rwY s m a b i = s i := by
  unfold rwY
  rw [fu_no _ _ h2, fu_no _ _ (by omega), fu_no _ _ (by omega), fu_no _ _ (by omega)]
theorem rwY_2 (s : Nat → Int32) (m a b : Nat) : rwY s m a b 2 = nI (if a = b then m else m + 1) := by
  unfold rwY
  rw [fu_same]
theorem rwY_d (s : Nat → Int32) (m a b : Nat) : rwY s m a b (56 + 3 * m) = s 3 := by
  unfold rwY
  rw [fu_no _ _ (by omega), fu_no _ _ (by omega), fu_no _ _ (by omega), fu_same]
theorem rwY_a (s : Nat → Int32) (m a b : Nat) : rwY s m a b (56 + 3 * m + 1) = nI a := by
  unfold rwY
  rw [fu_no _ _ (by omega), fu_no _ _ (by omega), fu_same]
theorem rwY_b (s : Nat → Int32) (m a b : Nat) : rwY s m a b (56 + 3 * m + 2) = nI b := by
  unfold rwY
  rw [fu_no _ _ (by omega), fu_same]
def yD (so : (Nat → Int64) → Nat → Bool) (n m P : Nat) (y : Nat × ((Nat → Int32) × Int32)) : Nat × ((Nat → Int32) × Int32) := (nx (nx y.1), dD so n (if d1 P y.1 = d2 P y.1 then m else m + 1) (rwY y.2.1 m (d1 P y.1) (d2 P y.1), y.2.2))
theorem y_1 {so : (Nat → Int64) → Nat → Bool} {n m P : Nat} : ∀ (D i : Nat) (y y' : Nat × ((Nat → Int32) × Int32)), y'.1 = y.1 → (foL (fun _ => yD so n m P) i D y').1 = (foL (fun _ => yC so n m P) i D y).1 := by
  intro D
  induction D with
  | zero => intro i y y' h; exact h
  | succ D ih =>
    intro i y y' h
    rw [foL_s, foL_s]
    exact ih _ _ _ (by show nx (nx y'.1) = nx (nx y.1); rw [h])
theorem dC_aa {so : (Nat → Int64) → Nat → Bool} {n m a : Nat} {z : (Nat → Int32) × Int32} : dC so n m a a z = dC so n m 0 0 z := by
  unfold dC drC
  rw [if_pos rfl, if_pos rfl]
theorem yday {so : (Nat → Int64) → Nat → Bool} {n m P k : Nat} {e : Int32} {y y' : Nat × ((Nat → Int32) × Int32)} (hn : n ≤ 8) (hm : m ≤ 24) (hP : 0 < P) (hP11 : P < 11) (hk : k < 19999) (h3 : y.2.1 3 = nI k) (h1 : y'.1 = y.1) (h : AZ m e y.2 y'.2) : AZ m e (yC so n m P y).2 (yD so n m P y').2 := by
  obtain ⟨c1, c2⟩ := cap_lt hk
  have b1 := d1_lt (X := y.1) hP
  have b2 := d2_lt (X := y.1) hP
  have hz : AZ m e (fu y.2.1 5 (nI (nx (nx y.1))), y.2.2) (rwY y'.2.1 m (d1 P y.1) (d2 P y.1), y'.2.2) := by
    refine ⟨fun i hi => ?_, h.2⟩
    show rwY y'.2.1 m (d1 P y.1) (d2 P y.1) i = fu y.2.1 5 (nI (nx (nx y.1))) i
    rw [rwY_o _ (by omega) (by omega), fu_no _ _ (by omega)]
    exact h.1 i hi
  have hc : capC (((fu y.2.1 5 (nI (nx (nx y.1))), y.2.2) : (Nat → Int32) × Int32).1 3) = ((fu y.2.1 5 (nI (nx (nx y.1))), y.2.2) : (Nat → Int32) × Int32).1 3 + 1 := by
    have q : ((fu y.2.1 5 (nI (nx (nx y.1))), y.2.2) : (Nat → Int32) × Int32).1 3 = nI k := (fu_no y.2.1 (i := 5) (j := 3) (nI (nx (nx y.1))) (by omega)).trans h3
    rw [q]
    exact c1
  show AZ m e (dC so n m (d1 P y.1) (d2 P y.1) (fu y.2.1 5 (nI (nx (nx y.1))), y.2.2)) (dD so n (if d1 P y'.1 = d2 P y'.1 then m else m + 1) (rwY y'.2.1 m (d1 P y'.1) (d2 P y'.1), y'.2.2))
  rw [h1]
  by_cases q : d1 P y.1 = d2 P y.1
  · rw [if_pos q, q, dC_aa]
    rw [q] at hz
    exact day_az hz hn hc
  · rw [if_neg q]
    refine day_azD hz hn hc q (by omega) (by omega) (fun w hw => ?_) (fo_inn (P := fun z => AF (rwY y'.2.1 m (d1 P y.1) (d2 P y.1)) z.1) (dy_af (so := so) (N := m) hn) m 0 _ (by omega) AF.rfl)
    rw [hw (56 + 3 * m) (by omega), hw 3 (by omega), hw (56 + 3 * m + 1) (by omega), hw (56 + 3 * m + 2) (by omega)]
    exact ⟨(rwY_d y'.2.1 m (d1 P y.1) (d2 P y.1)).trans (rwY_o y'.2.1 (m := m) (a := d1 P y.1) (b := d2 P y.1) (i := 3) (by omega) (by omega)).symm, rwY_a y'.2.1 m (d1 P y.1) (d2 P y.1), rwY_b y'.2.1 m (d1 P y.1) (d2 P y.1)⟩
theorem years_x {so : (Nat → Int64) → Nat → Bool} {n m P : Nat} {e : Int32} (hn : n ≤ 8) (hm : m ≤ 24) (hP : 0 < P) (hP11 : P < 11) : ∀ (D i k : Nat) (y y' : Nat × ((Nat → Int32) × Int32)), k + D ≤ 19999 → y.2.1 3 = nI k → y'.1 = y.1 → AZ m e y.2 y'.2 → AZ m e (foL (fun _ => yC so n m P) i D y).2 (foL (fun _ => yD so n m P) i D y').2 := by
  intro D
  induction D with
  | zero => intro i k y y' _ _ _ h; exact h
  | succ D ih =>
    intro i k y y' hk h3 h1 h
    rw [foL_s, foL_s]
    obtain ⟨c1, c2⟩ := cap_lt (k := k) (by omega)
    refine ih (i + 1) (k + 1) _ _ (by omega) ?_ (by show nx (nx y'.1) = nx (nx y.1); rw [h1]) (yday hn hm hP hP11 (by omega) h3 h1 h)
    show (dC so n m (d1 P y.1) (d2 P y.1) (fu y.2.1 5 (nI (nx (nx y.1))), y.2.2)).1 3 = _
    rw [dC_3]
    show capC (fu y.2.1 5 (nI (nx (nx y.1))) 3) = _
    rw [fu_no _ _ (by omega), h3, c1, c2]
theorem VY.cg {B n : Nat} {s s' : Nat → Int32} (h : VY B n s) (h3 : s' 3 = s 3) (h7 : s' 7 = s 7) (hc : ∀ c, c < n → s' (8 + 6 * c + 2) = s (8 + 6 * c + 2)) : VY B n s' := by
  obtain ⟨a, b, c⟩ := h
  refine ⟨by rw [h3]; exact a, by rw [h7]; exact b, fun i hi => ?_⟩
  rw [hc i hi]
  exact c i hi
theorem years_yC {so : (Nat → Int64) → Nat → Bool} {n m P : Nat} (hn : n ≤ 8) : ∀ (D i : Nat) (y : Nat × ((Nat → Int32) × Int32)), VY 19999 n y.2.1 → (foL (fun _ => yC so n m P) i D y).2.1 4 = y.2.1 4 ∧ VY 19999 n (foL (fun _ => yC so n m P) i D y).2.1 := by
  intro D
  induction D with
  | zero => intro i y h; exact ⟨rfl, h⟩
  | succ D ih =>
    intro i y h
    rw [foL_s]
    have g0 : VY 19999 n (fu y.2.1 5 (nI (nx (nx y.1)))) := h.cg (fu_no _ _ (by omega)) (fu_no _ _ (by omega)) fun c _ => fu_no _ _ (by omega)
    have e0 : (yC so n m P y).2 = dC so n m (d1 P y.1) (d2 P y.1) (fu y.2.1 5 (nI (nx (nx y.1))), y.2.2) := rfl
    obtain ⟨a1, a2, a3⟩ := days_yC (so := so) (m := m) hn (fun _ => (d1 P y.1, d2 P y.1)) 1 0 (fu y.2.1 5 (nI (nx (nx y.1))), y.2.2) g0
    have a2 : (yC so n m P y).2.1 4 = fu y.2.1 5 (nI (nx (nx y.1))) 4 := a2
    obtain ⟨b1, b2⟩ := ih (i + 1) (yC so n m P y) a3
    exact ⟨b1.trans (a2.trans (fu_no _ _ (by omega))), b2⟩
theorem years_yD {so : (Nat → Int64) → Nat → Bool} {n m P : Nat} (hn : n ≤ 8) (hm : m ≤ 24) : ∀ (D i B : Nat) (y : Nat × ((Nat → Int32) × Int32)), B + D ≤ 100000 → VY B n y.2.1 → (foL (fun _ => yD so n m P) i D y).2.1 4 = y.2.1 4 ∧ VY (B + D) n (foL (fun _ => yD so n m P) i D y).2.1 := by
  intro D
  induction D with
  | zero => intro i B y _ h; exact ⟨rfl, h⟩
  | succ D ih =>
    intro i B y hB h
    rw [foL_s]
    have g0 : VY B n (rwY y.2.1 m (d1 P y.1) (d2 P y.1)) := h.cg (rwY_o _ (by omega) (by omega)) (rwY_o _ (by omega) (by omega)) fun c _ => rwY_o _ (by omega) (by omega)
    obtain ⟨a1, a2, a3⟩ := days_yD (so := so) (m := if d1 P y.1 = d2 P y.1 then m else m + 1) hn 1 0 B (rwY y.2.1 m (d1 P y.1) (d2 P y.1), y.2.2) (by omega) g0
    have a2 : (yD so n m P y).2.1 4 = rwY y.2.1 m (d1 P y.1) (d2 P y.1) 4 := a2
    obtain ⟨b1, b2⟩ := ih (i + 1) (B + 1) (yD so n m P y) (by omega) a3
    rw [show B + 1 + D = B + (D + 1) by omega] at b2
    exact ⟨b1.trans (a2.trans (rwY_o _ (by omega) (by omega))), b2⟩
theorem year_eq {so : (Nat → Int64) → Nat → Bool} {rn D P X : Nat} {s : Nat → Int32} {e : Int32} (h : SOk s rn) (hP : s 0 = nI P) (h0 : 0 < P) (hP11 : P < 11) (hD : D ≤ 400) :
    (foL (fun _ => yD so (cl (s 1)) (cl (s 2)) P) 0 D (X, (s, e))).2.1 4 = (foL (fun _ => yC so (cl (s 1)) (cl (s 2)) P) 0 D (X, (fu s 5 (nI X), 0))).2.1 4 ∧
    acc (fV (foL (fun _ => yD so (cl (s 1)) (cl (s 2)) P) 0 D (X, (s, e))).2.1) (cl (s 1)) = acc (fV (foL (fun _ => yC so (cl (s 1)) (cl (s 2)) P) 0 D (X, (fu s 5 (nI X), 0))).2.1) (cl (s 1)) := by
  have hn := h.2.1.2
  have hm := h.2.2.1.2
  have h5 : ∀ i, i ≠ 5 → fu s 5 (nI X) i = s i := fun i hi => fu_no _ _ hi
  by_cases q : cl (s 3) + D ≤ 19999
  · have hx := years_x (so := so) (n := cl (s 1)) (m := cl (s 2)) (P := P) (e := e) (by omega) (by omega) h0 hP11 D 0 (cl (s 3)) (X, (fu s 5 (nI X), 0)) (X, (s, e)) q ((h5 3 (by omega)).trans h.2.2.2.1.1) rfl ⟨fun i hi => (h5 i (by omega)).symm, (Int32.zero_add e).symm⟩
    exact ⟨hx.1 4 (by omega), fV_am hx.1 _ (by omega)⟩
  · have hy := h.vy (by omega)
    obtain ⟨a2, a3⟩ := years_yC (so := so) (m := cl (s 2)) (P := P) (n := cl (s 1)) (by omega) D 0 (X, (fu s 5 (nI X), 0)) (hy.cg (h5 3 (by omega)) (h5 7 (by omega)) fun c _ => h5 _ (by omega))
    obtain ⟨b2, b3⟩ := years_yD (so := so) (m := cl (s 2)) (P := P) (n := cl (s 1)) (by omega) (by omega) D 0 19999 (X, (s, e)) (by omega) hy
    exact ⟨b2.trans ((h5 4 (by omega)).symm.trans a2.symm), va_fV (a3.va (by omega)) (b3.va (by omega)) _ (Nat.le_refl _)⟩
