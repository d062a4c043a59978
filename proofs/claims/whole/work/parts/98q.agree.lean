/-! ROWS THAT AGREE where a day looks. -/
def AM (m : Nat) (s s' : Nat → Int32) : Prop := ∀ i, (i < 56 ∧ i ≠ 2 ∧ i ≠ 5 ∧ i ≠ 6) ∨ (56 ≤ i ∧ i < 56 + 3 * m) → s' i = s i
def AZ (m : Nat) (e : Int32) (z z' : (Nat → Int32) × Int32) : Prop := AM m z.1 z'.1 ∧ z'.2 = z.2 + e
theorem acc_0 (f : Nat → Int32 → Int32) : acc f 0 = 0 := rfl
theorem fC_am {m : Nat} {s s' : Nat → Int32} (h : AM m s s') (g : Int32) : ∀ n, n ≤ 8 → acc (fC s' g) n = acc (fC s g) n := by
  intro n
  induction n with
  | zero => intro _; rfl
  | succ n ih =>
    intro hn
    rw [acc_s, acc_s, ih (by omega)]
    unfold fC
    rw [h (8 + 6 * n + 1) (by omega)]
theorem fH_am {m : Nat} {s s' : Nat → Int32} (h : AM m s s') (g : Int32) : ∀ n, n ≤ 8 → acc (fH s' g) n = acc (fH s g) n := by
  intro n
  induction n with
  | zero => intro _; rfl
  | succ n ih =>
    intro hn
    rw [acc_s, acc_s, ih (by omega)]
    unfold fH
    rw [h (8 + 6 * n + 1) (by omega)]
theorem fV_am {m : Nat} {s s' : Nat → Int32} (h : AM m s s') : ∀ n, n ≤ 8 → acc (fV s') n = acc (fV s) n := by
  intro n
  induction n with
  | zero => intro _; rw [acc_0, acc_0]
  | succ n ih =>
    intro hn
    rw [acc_s, acc_s, ih (by omega)]
    rw [fV, fV, h (8 + 6 * n + 2) (by omega), h 3 (by omega), h 7 (by omega)]
theorem wP_am {m : Nat} {s s' : Nat → Int32} (h : AM m s s') {n c p : Nat} (hn : n ≤ 8) (hc : c < 8) : wP s' n c p = wP s n c p := by
  funext j
  unfold wP gW
  simp only [h (8 + 6 * c) (by omega), h (8 + 6 * c + 1) (by omega), h (8 + 6 * c + 2) (by omega), h (8 + 6 * c + 3) (by omega), h 3 (by omega), fC_am h _ n hn]
theorem wH_am {m : Nat} {s s' : Nat → Int32} (h : AM m s s') {n c : Nat} (hn : n ≤ 8) (hc : c < 8) : wH s' n c = wH s n c := by
  funext j
  unfold wH gW
  simp only [h (8 + 6 * c) (by omega), h (8 + 6 * c + 1) (by omega), h (8 + 6 * c + 2) (by omega), h (8 + 6 * c + 3) (by omega), h (8 + 6 * c + 4) (by omega), h 3 (by omega), fC_am h _ n hn]
theorem payR_am {m : Nat} {s s' : Nat → Int32} (h : AM m s s') {c p : Nat} (hc : c < 8) : AM m (payR s c p) (payR s' c p) := by
  intro i hi
  unfold payR
  rw [h (8 + 6 * c + 3) (by omega), h i hi]
theorem homR_am {m : Nat} {s s' : Nat → Int32} (h : AM m s s') {c : Nat} (hc : c < 8) : AM m (homR s c) (homR s' c) := by
  intro i hi
  unfold homR
  rw [h 3 (by omega), h 4 (by omega), h (8 + 6 * c + 1) (by omega), h (8 + 6 * c + 5) (by omega), h i hi]
theorem gv_az {so : (Nat → Int64) → Nat → Bool} {m n b p c : Nat} {e : Int32} {z z' : (Nat → Int32) × Int32} (h : AZ m e z z') (hn : n ≤ 8) (hc : c < 8) : AZ m e (gvC so n b p c z) (gvC so n b p c z') := by
  unfold gvC
  rw [wP_am h.1 hn hc, h.1 3 (by omega), h.1 7 (by omega), h.1 (8 + 6 * c + 2) (by omega)]
  split
  · exact ⟨payR_am h.1 hc, by show z'.2 + 1 = z.2 + 1 + e; rw [h.2, Int32.add_assoc, Int32.add_comm e 1, ← Int32.add_assoc]⟩
  · exact h
theorem hm_az {so : (Nat → Int64) → Nat → Bool} {m n c : Nat} {e : Int32} {z z' : (Nat → Int32) × Int32} (h : AZ m e z z') (hn : n ≤ 8) (hc : c < 8) : AZ m e (hmC so n c z) (hmC so n c z') := by
  unfold hmC
  rw [wH_am h.1 hn hc, h.1 3 (by omega), h.1 7 (by omega), h.1 (8 + 6 * c + 2) (by omega), h.1 (8 + 6 * c + 4) (by omega)]
  split
  · exact ⟨homR_am h.1 hc, h.2⟩
  · exact h
theorem fo_az {m : Nat} {e : Int32} {F F' : Nat → (Nat → Int32) × Int32 → (Nat → Int32) × Int32} {N : Nat} (hF : ∀ i z z', i < N → AZ m e z z' → AZ m e (F i z) (F' i z')) : ∀ (f i : Nat) (z z' : (Nat → Int32) × Int32), i + f ≤ N → AZ m e z z' → AZ m e (foL F i f z) (foL F' i f z') := by
  intro f
  induction f with
  | zero => intro i z z' _ h; exact h
  | succ f ih =>
    intro i z z' hi h
    rw [foL_s, foL_s]
    exact ih _ _ _ (by omega) (hF i z z' (by omega) h)
theorem fgv_az {so : (Nat → Int64) → Nat → Bool} {m n b p : Nat} {e : Int32} {z z' : (Nat → Int32) × Int32} (h : AZ m e z z') (hn : n ≤ 8) : AZ m e (foL (gvC so n b p) 0 n z) (foL (gvC so n b p) 0 n z') :=
  fo_az (F := gvC so n b p) (F' := gvC so n b p) (N := n) (fun i _ _ hi g => gv_az g hn (by omega)) n 0 z z' (by omega) h
theorem fhm_az {so : (Nat → Int64) → Nat → Bool} {m n : Nat} {e : Int32} {z z' : (Nat → Int32) × Int32} (h : AZ m e z z') (hn : n ≤ 8) : AZ m e (foL (hmC so n) 0 n z) (foL (hmC so n) 0 n z') :=
  fo_az (F := hmC so n) (F' := hmC so n) (N := n) (fun i _ _ hi g => hm_az g hn (by omega)) n 0 z z' (by omega) h
theorem mt_az {so : (Nat → Int64) → Nat → Bool} {m n a b : Nat} {e : Int32} {z z' : (Nat → Int32) × Int32} (h : AZ m e z z') (hn : n ≤ 8) : AZ m e (mtC so n a b z) (mtC so n a b z') := by
  unfold mtC
  rw [fH_am h.1 _ n hn, fH_am h.1 _ n hn]
  exact fgv_az (fgv_az h hn) hn
theorem dy_az {so : (Nat → Int64) → Nat → Bool} {m n i : Nat} {e : Int32} {z z' : (Nat → Int32) × Int32} (h : AZ m e z z') (hn : n ≤ 8) (hi : i < m) : AZ m e (dyC so n i z) (dyC so n i z') := by
  unfold dyC
  rw [h.1 3 (by omega), h.1 (56 + 3 * i) (by omega), h.1 (56 + 3 * i + 1) (by omega), h.1 (56 + 3 * i + 2) (by omega)]
  split
  · exact mt_az h hn
  · exact h
theorem fdy_az {so : (Nat → Int64) → Nat → Bool} {m n : Nat} {e : Int32} {z z' : (Nat → Int32) × Int32} (h : AZ m e z z') (hn : n ≤ 8) : AZ m e (foL (dyC so n) 0 m z) (foL (dyC so n) 0 m z') :=
  fo_az (F := dyC so n) (F' := dyC so n) (N := m) (fun i _ _ hi g => dy_az g hn hi) m 0 z z' (by omega) h
theorem dn_az {m : Nat} {e v : Int32} {z z' : (Nat → Int32) × Int32} (h : AZ m e z z') : AZ m e (dnC v z) (dnC v z') := by
  refine ⟨fun i hi => ?_, h.2⟩
  show fu z'.1 3 v i = fu z.1 3 v i
  unfold fu
  rw [h.1 i hi]
/-- one day on both sides, without draws, before the last day there is -/
theorem day_az {so : (Nat → Int64) → Nat → Bool} {m n : Nat} {e : Int32} {z z' : (Nat → Int32) × Int32} (h : AZ m e z z') (hn : n ≤ 8) (hc : capC (z.1 3) = z.1 3 + 1) : AZ m e (dC so n m 0 0 z) (dD so n m z') := by
  unfold dC dD drC
  rw [if_pos rfl, hc, h.1 3 (by omega)]
  exact dn_az (fhm_az (fdy_az h hn) hn)
/-- one day on both sides, with a drawn meeting that the reference has as one more -/
theorem day_azD {so : (Nat → Int64) → Nat → Bool} {m n a b : Nat} {e : Int32} {z z' : (Nat → Int32) × Int32} (h : AZ m e z z') (hn : n ≤ 8) (hc : capC (z.1 3) = z.1 3 + 1) (hab : a ≠ b) (ha : a < 2 ^ 31) (hb : b < 2 ^ 31) (hm : ∀ w, AF z'.1 w → w (56 + 3 * m) = w 3 ∧ w (56 + 3 * m + 1) = nI a ∧ w (56 + 3 * m + 2) = nI b) (hA : AF z'.1 (foL (dyC so n) 0 m z').1) : AZ m e (dC so n m a b z) (dD so n (m + 1) z') := by
  have q : ∀ (F : Nat → (Nat → Int32) × Int32 → (Nat → Int32) × Int32) (f i : Nat) (z : (Nat → Int32) × Int32), foL F i (f + 1) z = F (i + f) (foL F i f z) := by
    intro F f
    induction f with
    | zero => intro i z; rfl
    | succ f ih =>
      intro i z
      rw [foL_s, ih, foL_s, Nat.add_right_comm, Nat.add_assoc]
  unfold dC dD drC
  rw [if_neg hab, hc, h.1 3 (by omega), q, Nat.zero_add]
  obtain ⟨h1, h2, h3⟩ := hm _ hA
  have e1 : dyC so n m (foL (dyC so n) 0 m z') = mtC so n a b (foL (dyC so n) 0 m z') := by
    rw [dyC, if_pos h1, h2, h3, cl_nI ha, cl_nI hb]
  rw [e1]
  exact dn_az (fhm_az (mt_az (fdy_az h hn) hn) hn)
/-! what a day leaves alone -/
def Inn (P : (Nat → Int32) × Int32 → Prop) (F : Nat → (Nat → Int32) × Int32 → (Nat → Int32) × Int32) (N : Nat) : Prop := ∀ i z, i < N → P z → P (F i z)
theorem fo_inn {P : (Nat → Int32) × Int32 → Prop} {F : Nat → (Nat → Int32) × Int32 → (Nat → Int32) × Int32} {N : Nat} (h : Inn P F N) : ∀ (f i : Nat) (z : (Nat → Int32) × Int32), i + f ≤ N → P z → P (foL F i f z) := by
  intro f
  induction f with
  | zero => intro i z _ h; exact h
  | succ f ih =>
    intro i z hi g
    rw [foL_s]
    exact ih _ _ (by omega) (h i z (by omega) g)
theorem gv_af {so : (Nat → Int64) → Nat → Bool} {n b p N : Nat} {s0 : Nat → Int32} (hN : N ≤ 8) : Inn (fun z => AF s0 z.1) (gvC so n b p) N := by
  intro i z hi h
  show AF s0 (gvC so n b p i z).1
  unfold gvC
  split
  · exact h.pay (by omega)
  · exact h
theorem hm_af {so : (Nat → Int64) → Nat → Bool} {n N : Nat} {s0 : Nat → Int32} (hN : N ≤ 8) : Inn (fun z => AF s0 z.1) (hmC so n) N := by
  intro i z hi h
  show AF s0 (hmC so n i z).1
  unfold hmC
  split
  · exact h.hom (by omega)
  · exact h
theorem mt_af {so : (Nat → Int64) → Nat → Bool} {n a b : Nat} {s0 : Nat → Int32} {z : (Nat → Int32) × Int32} (hn : n ≤ 8) (h : AF s0 z.1) : AF s0 (mtC so n a b z).1 :=
  fo_inn (P := fun z => AF s0 z.1) (gv_af hn) _ _ _ (Nat.le_of_eq (Nat.zero_add _)) (fo_inn (P := fun z => AF s0 z.1) (gv_af hn) _ _ _ (Nat.le_of_eq (Nat.zero_add _)) h)
theorem dy_af {so : (Nat → Int64) → Nat → Bool} {n N : Nat} {s0 : Nat → Int32} (hn : n ≤ 8) : Inn (fun z => AF s0 z.1) (dyC so n) N := by
  intro i z hi h
  show AF s0 (dyC so n i z).1
  unfold dyC
  split
  · exact mt_af hn h
  · exact h
theorem dC_af {so : (Nat → Int64) → Nat → Bool} {n m a b : Nat} {s0 : Nat → Int32} {z : (Nat → Int32) × Int32} (hn : n ≤ 8) (h : AF s0 z.1) : AF (fu s0 3 (capC (z.1 3))) (dC so n m a b z).1 := by
  unfold dC
  refine AF.day _ (fo_inn (P := fun z => AF s0 z.1) (hm_af hn) _ _ _ (Nat.le_of_eq (Nat.zero_add _)) ?_)
  have g := fo_inn (P := fun z => AF s0 z.1) (dy_af (so := so) (N := m) hn) m 0 z (Nat.le_of_eq (Nat.zero_add _)) h
  unfold drC
  split
  · exact g
  · exact mt_af hn g
theorem dD_af {so : (Nat → Int64) → Nat → Bool} {n m : Nat} {s0 : Nat → Int32} {z : (Nat → Int32) × Int32} (hn : n ≤ 8) (h : AF s0 z.1) : AF (fu s0 3 (z.1 3 + 1)) (dD so n m z).1 := by
  unfold dD
  exact AF.day _ (fo_inn (P := fun z => AF s0 z.1) (hm_af hn) _ _ _ (Nat.le_of_eq (Nat.zero_add _)) (fo_inn (P := fun z => AF s0 z.1) (dy_af (so := so) (N := m) hn) m 0 z (Nat.le_of_eq (Nat.zero_add _)) h))
/-! when all COINS are VOID a day does nothing -/
def VA (n : Nat) (s : Nat → Int32) : Prop := ∀ c, c < n → ¬ s 3 - s (8 + 6 * c + 2) ≤ s 7
theorem fo_id {F : Nat → (Nat → Int32) × Int32 → (Nat → Int32) × Int32} {z : (Nat → Int32) × Int32} {N : Nat} (h : ∀ i, i < N → F i z = z) : ∀ (f i : Nat), i + f ≤ N → foL F i f z = z := by
  intro f
  induction f with
  | zero => intro i _; rfl
  | succ f ih =>
    intro i hi
    rw [foL_s, h i (by omega)]
    exact ih _ (by omega)
theorem va_gv {so : (Nat → Int64) → Nat → Bool} {n b p : Nat} {z : (Nat → Int32) × Int32} (h : VA n z.1) : foL (gvC so n b p) 0 n z = z := by
  refine fo_id (N := n) (fun i hi => ?_) n 0 (by omega)
  unfold gvC
  exact if_neg fun g => h i hi g.2.1
theorem va_mt {so : (Nat → Int64) → Nat → Bool} {n a b : Nat} {z : (Nat → Int32) × Int32} (h : VA n z.1) : mtC so n a b z = z := by
  unfold mtC
  rw [va_gv h, va_gv h]
theorem va_dy {so : (Nat → Int64) → Nat → Bool} {n m : Nat} {z : (Nat → Int32) × Int32} (h : VA n z.1) : foL (dyC so n) 0 m z = z := by
  refine fo_id (N := m) (fun i _ => ?_) m 0 (by omega)
  unfold dyC
  rw [va_mt h]
  split <;> rfl
theorem va_hm {so : (Nat → Int64) → Nat → Bool} {n : Nat} {z : (Nat → Int32) × Int32} (h : VA n z.1) : foL (hmC so n) 0 n z = z := by
  refine fo_id (N := n) (fun i hi => ?_) n 0 (by omega)
  unfold hmC
  exact if_neg fun g => h i hi g.2.1
theorem va_dC {so : (Nat → Int64) → Nat → Bool} {n m a b : Nat} {z : (Nat → Int32) × Int32} (h : VA n z.1) : dC so n m a b z = dnC (capC (z.1 3)) z := by
  unfold dC
  rw [va_dy h]
  have : drC so n a b z = z := by unfold drC; rw [va_mt h]; split <;> rfl
  rw [this, va_hm h]
theorem va_dD {so : (Nat → Int64) → Nat → Bool} {n m : Nat} {z : (Nat → Int32) × Int32} (h : VA n z.1) : dD so n m z = dnC (z.1 3 + 1) z := by
  unfold dD
  rw [va_dy h, va_hm h]
theorem va_fV {n : Nat} {s s' : Nat → Int32} (h : VA n s) (h' : VA n s') : ∀ k, k ≤ n → acc (fV s') k = acc (fV s) k := by
  intro k
  induction k with
  | zero => intro _; rw [acc_0, acc_0]
  | succ k ih =>
    intro hk
    rw [acc_s, acc_s, ih (by omega), fV, fV, if_neg (h k (by omega)), if_neg (h' k (by omega))]
