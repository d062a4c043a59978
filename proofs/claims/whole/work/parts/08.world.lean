/-! THE SMALL MACHINE'S MEMORY IN THE HEAP: cell p lies at b + p; what the class doesn't own (strings, statics, the script) lies below b. -/
def zv (b : Nat) (X : Nat → Value) : Value → Value
  | .ref p => .ref (b + p)
  | .retAddr k => X k
  | v => v
def z_A (b : Nat) : Nat → Prop := fun q => b ≤ q
def zX (adK adV : Nat → Nat) (sb : Nat) (fm : Value) : Nat → Value := fun k => if k < 6 then .ref (adK k) else if k < 16 then .ref (adV (k - 10)) else if k = 20 then fm else .ref sb
theorem zX_cat {adK adV : Nat → Nat} {sb : Nat} {fm : Value} (h : fm.category = 1) (k : Nat) : (zX adK adV sb fm k).category = 1 := by
  unfold zX
  split
  · rfl
  · split
    · rfl
    · split
      · exact h
      · rfl
theorem zv_cat {b : Nat} {X : Nat → Value} (h : ∀ k, (X k).category = 1) (v : Value) : (zv b X v).category = v.category := by
  cases v <;> first | rfl | exact h _
theorem zv_cats {b : Nat} {X : Nat → Value} (h : ∀ k, (X k).category = 1) (S : List Value) : ((S.map (zv b X)).map fun v => v.category).sum = z_cat S := by
  unfold z_cat
  rw [List.map_map]
  congr 1
  apply List.map_congr_left
  intro v _
  exact zv_cat h v
theorem zv_rf {b : Nat} {X : Nat → Value} (r : Option Nat) : zv b X (va_rf r) = va_rf (r.map (b + ·)) := by
  cases r <;> rfl
def z_ty (kd : Nat) : FieldType := match kd with
  | 12 => .byte
  | 13 => .char
  | 14 => .int
  | 15 => .long
  | 16 => .boolean
  | 17 => .object RX1
  | 18 => .object RX4
  | _ => .object RX6
def z_tys (cs : Nat → ClassId) : List (ClassId × FieldType) := [(cs 12, z_ty 12), (cs 13, z_ty 13), (cs 14, z_ty 14), (cs 15, z_ty 15), (cs 16, z_ty 16), (cs 17, z_ty 17), (cs 18, z_ty 18), (cs 19, z_ty 19)]
theorem z_tys_at {cs : Nat → ClassId} {kd : Nat} (h1 : 12 ≤ kd) (h2 : kd < 20) : (z_tys cs)[kd - 12]? = some (cs kd, z_ty kd) := by
  obtain ⟨j, rfl⟩ : ∃ j, kd = j + 12 := ⟨kd - 12, by omega⟩
  have hj : j < 8 := by omega
  match j, hj with
  | 0, _ => rfl
  | 1, _ => rfl
  | 2, _ => rfl
  | 3, _ => rfl
  | 4, _ => rfl
  | 5, _ => rfl
  | 6, _ => rfl
  | 7, _ => rfl
def z_fv (b : Nat) (m : zM) (p k : Nat) : Value := if (z_ref.getD (zK m p) []).getD k false then va_rf ((zR m p k).map (b + ·)) else .int (zI m p k)
def z_e (b : Nat) (cs : Nat → ClassId) (m : zM) (p : Nat) : va_E := if zK m p < 12 then .inr (zK m p, (List.range (zN m p)).map (z_fv b m p)) else if zK m p = 15 then .inl (cs 15, zN m p, .inr (.inl (zJ m p))) else if zK m p < 17 then .inl (cs (zK m p), zN m p, .inl (zI m p)) else .inl (cs (zK m p), zN m p, .inr (.inr (.inr (.inr (fun j => (zR m p j).map (b + ·))))))
def z_ws (b : Nat) (cs : Nat → ClassId) (m : zM) : va_W := (List.range (zn m)).map (fun p => (b + p, z_e b cs m p))
def z_wf (m : zM) : Prop := ∀ p, p < zn m → zK m p < 20 ∧ (zK m p < 12 → zN m p = z_fn (zK m p))
theorem z_ws_at {b : Nat} {cs : Nat → ClassId} {m : zM} {p : Nat} (h : p < zn m) : (z_ws b cs m)[p]? = some (b + p, z_e b cs m p) := by
  simp [z_ws, h]
theorem z_ws_lt {b : Nat} {cs : Nat → ClassId} {m : zM} {p : Nat} {q : Nat × va_E} (h : (z_ws b cs m)[p]? = some q) : p < zn m ∧ q = (b + p, z_e b cs m p) := by
  have hl : p < (z_ws b cs m).length := (List.getElem?_eq_some_iff.mp h).1
  have hl : p < zn m := by simpa [z_ws] using hl
  rw [z_ws_at hl] at h
  exact ⟨hl, (Option.some.inj h).symm⟩
theorem z_D {b : Nat} {cs : Nat → ClassId} {m : zM} : va_D (z_A b) (z_ws b cs m) := by
  refine ⟨fun i j p q hi hj e => ?_, fun k q hk => ?_⟩
  · obtain ⟨-, rfl⟩ := z_ws_lt hi
    obtain ⟨-, rfl⟩ := z_ws_lt hj
    have e : b + i = b + j := e
    omega
  · obtain ⟨-, rfl⟩ := z_ws_lt hk
    exact Nat.le_add_right b k
theorem z_ws_set {b : Nat} {cs : Nat → ClassId} {m m' : zM} (p : Nat) (hn : zn m' = zn m) (h : p < zn m) (ho : ∀ q, q ≠ p → z_e b cs m' q = z_e b cs m q) : z_ws b cs m' = (z_ws b cs m).set p (b + p, z_e b cs m' p) := by
  apply List.ext_getElem?
  intro i
  by_cases hi : i < zn m
  · rw [z_ws_at (by omega)]
    by_cases hp : i = p
    · subst hp
      rw [List.getElem?_set_self (by simpa [z_ws] using hi)]
    · rw [List.getElem?_set_ne (fun z => hp z.symm), z_ws_at hi, ho i hp]
  · rw [List.getElem?_eq_none (by simp [z_ws]; omega), List.getElem?_eq_none (by simp [z_ws]; omega)]
theorem z_ws_push {b : Nat} {cs : Nat → ClassId} {m m' : zM} (hn : zn m' = zn m + 1) (ho : ∀ q, q < zn m → z_e b cs m' q = z_e b cs m q) : z_ws b cs m' = z_ws b cs m ++ [(b + zn m, z_e b cs m' (zn m))] := by
  apply List.ext_getElem?
  intro i
  by_cases hi : i < zn m
  · rw [z_ws_at (by omega), List.getElem?_append_left (by simpa [z_ws] using hi), z_ws_at hi, ho i hi]
  · by_cases hj : i = zn m
    · subst hj
      rw [z_ws_at (by omega), List.getElem?_append_right (by simp [z_ws])]
      simp [z_ws]
    · rw [List.getElem?_eq_none (by simp [z_ws]; omega), List.getElem?_eq_none (by simp [z_ws]; omega)]
theorem z_u_ne {α : Type} {f : Nat → Nat → α} {p k q : Nat} {v : α} (h : q ≠ p) : z_u f p k v q = f q := by
  funext j
  simp [z_u, h]
theorem z_r_ne {α : Type} {f : Nat → Nat → α} {p q : Nat} {g : Nat → α} (h : q ≠ p) : z_r f p g q = f q := by
  funext j
  simp [z_r, h]
theorem z_r_eq {α : Type} {f : Nat → Nat → α} {p : Nat} {g : Nat → α} : z_r f p g p = g := by
  funext j
  simp [z_r]
theorem z_1_ne {α : Type} {f : Nat → α} {p q : Nat} {g : α} (h : q ≠ p) : z_1 f p g q = f q := by simp [z_1, h]
theorem z_1_eq {α : Type} {f : Nat → α} {p : Nat} {g : α} : z_1 f p g p = g := by simp [z_1]
/-- z_e looks at a cell's own rows alone -/
theorem z_e_cong {b : Nat} {cs : Nat → ClassId} {m m' : zM} {q : Nat} (h1 : zI m' q = zI m q) (h2 : zJ m' q = zJ m q) (h3 : zR m' q = zR m q) (h4 : zK m' q = zK m q) (h5 : zN m' q = zN m q) : z_e b cs m' q = z_e b cs m q := by
  have hf : z_fv b m' q = z_fv b m q := by
    funext k
    unfold z_fv
    rw [h4, h3, h1]
  unfold z_e
  rw [h4, h5, h2, h1, h3, hf]
theorem z_e_o {b : Nat} {cs : Nat → ClassId} {m : zM} {p c : Nat} (hc : c < 12) (h : zK m p = c) : z_e b cs m p = .inr (c, (List.range (zN m p)).map (z_fv b m p)) := by
  unfold z_e
  rw [h, if_pos hc]
theorem z_e_i {b : Nat} {cs : Nat → ClassId} {m : zM} {p kd : Nat} (h : zK m p = kd) (h1 : 12 ≤ kd) (h2 : kd < 17) (h3 : ¬ kd = 15) : z_e b cs m p = .inl (cs kd, zN m p, .inl (zI m p)) := by
  unfold z_e
  rw [h, if_neg (by omega), if_neg h3, if_pos h2]
theorem z_e_l {b : Nat} {cs : Nat → ClassId} {m : zM} {p : Nat} (h : zK m p = 15) : z_e b cs m p = .inl (cs 15, zN m p, .inr (.inl (zJ m p))) := by
  unfold z_e
  rw [h, if_neg (by omega), if_pos rfl]
theorem z_e_q {b : Nat} {cs : Nat → ClassId} {m : zM} {p kd : Nat} (h : zK m p = kd) (h1 : 17 ≤ kd) : z_e b cs m p = .inl (cs kd, zN m p, .inr (.inr (.inr (.inr (fun j => (zR m p j).map (b + ·)))))) := by
  unfold z_e
  rw [h, if_neg (by omega), if_neg (by omega), if_neg (by omega)]
/-- the locals -/
def z_lv (b : Nat) (X : Nat → Value) (L : List Value) : List (Nat × Value) := (List.range L.length).filterMap (fun k => if z_is (z_at L k) then some (k, zv b X (z_at L k)) else none)
def z_lh (b : Nat) (X : Nat → Value) (ls : Array Slot) (nL : Nat) (L : List Value) : Prop := L.length = nL ∧ lv_has ls nL (z_lv b X L)
theorem z_lv_mem {b : Nat} {X : Nat → Value} {L : List Value} {q : Nat × Value} : q ∈ z_lv b X L ↔ q.1 < L.length ∧ z_is (z_at L q.1) = true ∧ q.2 = zv b X (z_at L q.1) := by
  unfold z_lv
  rw [List.mem_filterMap]
  constructor
  · rintro ⟨k, hk, h⟩
    have hk := List.mem_range.mp hk
    split at h
    · rename_i hs
      cases h
      exact ⟨hk, hs, rfl⟩
    · cases h
  · rintro ⟨h1, h2, h3⟩
    refine ⟨q.1, List.mem_range.mpr h1, ?_⟩
    rw [if_pos h2, ← h3]
theorem z_at_lt {L : List Value} {k : Nat} (h : z_is (z_at L k) = true) : k < L.length := by
  induction L generalizing k with
  | nil => simp [z_at, z_is] at h
  | cons a L ih =>
    cases k with
    | zero => simp
    | succ k => exact Nat.succ_lt_succ (ih h)
theorem z_lget {b : Nat} {X : Nat → Value} {ls : Array Slot} {nL k : Nat} {L : List Value} {v : Value} (h : z_lh b X ls nL L) (hv : z_at L k = v) (hs : z_is v = true) : ls[k]? = some (.val (zv b X v)) :=
  h.2.2.2 (k, zv b X v) (z_lv_mem.mpr ⟨z_at_lt (by rw [hv]; exact hs), by rw [hv]; exact hs, by rw [hv]⟩)
theorem z_put_len (L : List Value) (k : Nat) (v : Value) : (z_put L k v).length = L.length := by
  induction L generalizing k with
  | nil => rfl
  | cons a L ih => cases k with
    | zero => rfl
    | succ k => simp [z_put, ih]
theorem z_put_at (L : List Value) (k j : Nat) (v : Value) : z_at (z_put L k v) j = if j = k ∧ k < L.length then v else z_at L j := by
  induction L generalizing k j with
  | nil => simp [z_put]
  | cons a L ih =>
    cases k with
    | zero => cases j with
      | zero => simp [z_put, z_at]
      | succ j => simp [z_put, z_at]
    | succ k => cases j with
      | zero => simp [z_put, z_at]
      | succ j => simp [z_put, z_at, ih]
theorem z_s1_len (L : List Value) (k : Nat) (v : Value) : (z_s1 L k v).length = L.length := by
  unfold z_s1
  split <;> simp [z_put_len]
/-- what the locals hold behind a store of one place, or of two -/
theorem z_s1_at {L : List Value} {k : Nat} (x : Value) (hk : k < L.length) (j : Nat) (hs : z_is (z_at (z_s1 L k x) j) = true) : (j = k ∧ z_at (z_s1 L k x) j = x) ∨ (j ≠ k ∧ z_at (z_s1 L k x) j = z_at L j ∧ ¬ (j + 1 = k ∧ (z_at L j).category = 2)) := by
  by_cases hj : j = k
  · left
    refine ⟨hj, ?_⟩
    subst hj
    unfold z_s1
    split
    · rw [z_put_at]; simp [hk]
    · rw [z_put_at, z_put_len]; simp [hk]
  · right
    unfold z_s1 at hs ⊢
    split at hs
    · rename_i hn
      simp only [z_put_at, if_neg (show ¬ (j = k ∧ k < L.length) from fun z => hj z.1)] at hs ⊢
      refine ⟨hj, ?_, fun z => ?_⟩
      · first | trivial | rfl
      obtain ⟨z1, z2⟩ := z
      subst z1
      simp only [z_nl] at hn
      split at hn
      · cases hn
      · cases hn
      · rename_i h1 h2
        cases hc : z_at L j with
        | long v => exact h1 v hc
        | double v => exact h2 v hc
        | _ => rw [hc] at z2; simp [Value.category] at z2
    · rename_i hn
      simp only [z_put_at, z_put_len, if_neg (show ¬ (j = k ∧ k < L.length) from fun z => hj z.1)] at hs ⊢
      by_cases hj2 : j = k - 1 ∧ k - 1 < L.length
      · rw [if_pos hj2] at hs
        simp [z_is] at hs
      · rw [if_neg hj2]
        refine ⟨hj, ?_, fun z => hj2 ?_⟩
        · first | trivial | rfl
        · omega
theorem z_lset1 {b : Nat} {X : Nat → Value} {ls' : Array Slot} {nL k : Nat} {L : List Value} {x : Value} (hX : ∀ k, (X k).category = 1) (hL : L.length = nL) (hk : k < L.length) (h : lv_has ls' nL ((k, zv b X x) :: (z_lv b X L).filter (fun q => !(q.1 == k) && !(q.1 + 1 == k && q.2.category == 2)))) : z_lh b X ls' nL (z_s1 L k x) := by
  refine ⟨by rw [z_s1_len]; exact hL, h.1, h.2.1, fun q hq => ?_⟩
  obtain ⟨h1, h2, h3⟩ := z_lv_mem.mp hq
  rcases z_s1_at x hk q.1 h2 with ⟨e, e2⟩ | ⟨e, e2, e3⟩
  · refine h.2.2 q ?_
    rw [e2] at h3
    rw [← e, ← h3]
    exact List.mem_cons_self
  · refine h.2.2 q (List.mem_cons_of_mem _ (List.mem_filter.mpr ⟨z_lv_mem.mpr ⟨by rw [z_s1_len] at h1; exact h1, by rw [← e2]; exact h2, by rw [h3, e2]⟩, ?_⟩))
    have hc : q.2.category = (z_at L q.1).category := by rw [h3, e2]; exact zv_cat hX _
    simp only [Bool.and_eq_true, Bool.not_eq_true', beq_eq_false_iff_ne, Bool.and_eq_false_iff, beq_eq_false_iff_ne]
    refine ⟨e, ?_⟩
    by_cases z : q.1 + 1 = k
    · right
      rw [hc]
      exact fun z2 => e3 ⟨z, z2⟩
    · left
      exact z
theorem z_lset2 {b : Nat} {X : Nat → Value} {ls' : Array Slot} {nL k : Nat} {L : List Value} {x : Value} (hX : ∀ k, (X k).category = 1) (hL : L.length = nL) (hk : k + 1 < L.length) (h : lv_has ls' nL ((k, zv b X x) :: (z_lv b X L).filter (fun q => !(q.1 == k) && (!(q.1 == k + 1) && !(q.1 + 1 == k && q.2.category == 2))))) : z_lh b X ls' nL (z_s2 L k x) := by
  refine ⟨by unfold z_s2; rw [z_put_len, z_s1_len]; exact hL, h.1, h.2.1, fun q hq => ?_⟩
  obtain ⟨h1, h2, h3⟩ := z_lv_mem.mp hq
  unfold z_s2 at h1 h2 h3
  rw [z_put_at, z_s1_len] at h2 h3
  have hne : ¬ (q.1 = k + 1 ∧ k + 1 < L.length) := by
    intro z
    rw [if_pos z] at h2
    simp [z_is] at h2
  rw [if_neg hne] at h2 h3
  rcases z_s1_at x (by omega) q.1 h2 with ⟨e, e2⟩ | ⟨e, e2, e3⟩
  · refine h.2.2 q ?_
    rw [e2] at h3
    rw [← e, ← h3]
    exact List.mem_cons_self
  · refine h.2.2 q (List.mem_cons_of_mem _ (List.mem_filter.mpr ⟨z_lv_mem.mpr ⟨by rw [z_put_len, z_s1_len] at h1; exact h1, by rw [← e2]; exact h2, by rw [h3, e2]⟩, ?_⟩))
    have hc : q.2.category = (z_at L q.1).category := by rw [h3, e2]; exact zv_cat hX _
    simp only [Bool.and_eq_true, Bool.not_eq_true', beq_eq_false_iff_ne, Bool.and_eq_false_iff, beq_eq_false_iff_ne]
    refine ⟨e, fun z => hne ⟨z, hk⟩, ?_⟩
    by_cases z : q.1 + 1 = k
    · right
      rw [hc]
      exact fun z2 => e3 ⟨z, z2⟩
    · left
      exact z
