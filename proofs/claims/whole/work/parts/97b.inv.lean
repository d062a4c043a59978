/-! WHAT STAYS between two calls: the class's State 'now' (cell 17) is the reference's row 62, and so on. -/
def cl (v : Int32) : Nat := v.toNatClampNeg
/-- from 0 on, below b -/
def Rg (v : Int32) (b : Nat) : Prop := v = nI (cl v) ∧ cl v < b
theorem cl_nI {n : Nat} (h : n < 2 ^ 31) : cl (nI n) = n := nI_clamp h
theorem Rg.of {n b : Nat} (h : n < b) (hb : b ≤ 2 ^ 31) : Rg (nI n) b := ⟨by rw [cl_nI (by omega)], by rw [cl_nI (by omega)]; exact h⟩
theorem Rg.le {v : Int32} {a b : Nat} (h : Rg v a) (hb : a ≤ b) : Rg v b := ⟨h.1, Nat.lt_of_lt_of_le h.2 hb⟩
theorem Rg.ex {v : Int32} {b : Nat} (h : Rg v b) : ∃ n, n < b ∧ v = nI n ∧ cl v = n := ⟨cl v, h.2, h.1, rfl⟩
/-! a COIN and a MEETING of a row -/
def CoinOk (s : Nat → Int32) (c : Nat) : Prop :=
  Rg (s (8 + 6 * c)) 100 ∧ Rg (s (8 + 6 * c + 1)) (cl (s 0)) ∧ Rg (s (8 + 6 * c + 2)) 2999 ∧ Rg (s (8 + 6 * c + 3)) 1024 ∧ Rg (s (8 + 6 * c + 4)) 2 ∧
  (s (131 + c) = -1 ∨ Rg (s (131 + c)) 2) ∧ (cl (s (8 + 6 * c + 2)) ≤ 999 ∨ cl (s (8 + 6 * c + 2)) ≤ cl (s 3)) ∧ (s (8 + 6 * c + 4) = 1 → cl (s (8 + 6 * c + 2)) ≤ 1999) ∧
  (cl (s (8 + 6 * c + 3))).testBit (cl (s (8 + 6 * c + 1))) = true
def MeetOk (s : Nat → Int32) (m : Nat) : Prop :=
  Rg (s (56 + 3 * m)) 2000 ∧ Rg (s (56 + 3 * m + 1)) (cl (s 0)) ∧ Rg (s (56 + 3 * m + 2)) (cl (s 0)) ∧ s (56 + 3 * m + 1) ≠ s (56 + 3 * m + 2)
/-- a row that a TOWN may have, with rn RULES -/
def SOk (s : Nat → Int32) (rn : Nat) : Prop :=
  Rg (s 0) 11 ∧ Rg (s 1) 9 ∧ Rg (s 2) 25 ∧ Rg (s 3) 20000 ∧ Rg (s 5) (2 ^ 31) ∧ (s 6 = -1 ∨ Rg (s 6) rn) ∧ Rg (s 7) 1000 ∧
  (∀ c, c < cl (s 1) → CoinOk s c) ∧ (∀ m, m < cl (s 2) → MeetOk s m)
/-! the MEETINGS by their days -/
def insL (dy : Nat → Int32) (m : Nat) : List Nat → List Nat
  | [] => [m]
  | a :: l => if dy m < dy a then a :: insL dy m l else m :: a :: l
/-- the order so far, the last one first -/
def ordL (dy : Nat → Int32) : Nat → List Nat
  | 0 => []
  | n + 1 => insL dy n (ordL dy n)
/-- the k-th of n -/
def ordK (dy : Nat → Int32) (n k : Nat) : Nat := (ordL dy n).getD (n - 1 - k) 0
/-! a State of the class: cell st, its Plan: cell pl -/
def StS (R : Nat → Nat → Option Nat) (G : zG) (st : Nat) : Prop :=
  zo G st 6 ∧ R st 5 = some (st + 1) ∧ za G (st + 1) 17 8 ∧ ∀ c, c < 8 → R (st + 1) c = some (st + 2 + c) ∧ zo G (st + 2 + c) 1
def PlS (R : Nat → Nat → Option Nat) (G : zG) (pl : Nat) : Prop :=
  (pl = 1 ∨ 71 ≤ pl) ∧ zo G pl 3 ∧ (∀ i, i < 7 → R pl (4 + i) = some (pl + 1 + i)) ∧ (∀ i, i < 3 → za G (pl + 1 + i) 14 8) ∧ (∀ i, i < 4 → za G (pl + 4 + i) 14 24)
/-- the Plan tells the row -/
def PlV (I : Nat → Nat → Int32) (pl : Nat) (s : Nat → Int32) : Prop :=
  I pl 0 = s 0 ∧ I pl 1 = s 7 ∧ I pl 2 = s 1 ∧ I pl 3 = s 2 ∧
  (∀ m, m < cl (s 2) → I (pl + 4) m = s (56 + 3 * m) ∧ I (pl + 5) m = s (56 + 3 * m + 1) ∧ I (pl + 6) m = s (56 + 3 * m + 2) ∧ I (pl + 7) m = nI (ordK (fun m => s (56 + 3 * m)) (cl (s 2)) m))
/-- a Coin tells the row's -/
def CnV (I : Nat → Nat → Int32) (p : Nat) (s : Nat → Int32) (c : Nat) : Prop :=
  I p 0 = s (8 + 6 * c) ∧ I p 1 = s (8 + 6 * c + 1) ∧ I p 2 = s (8 + 6 * c + 2) ∧ I p 3 = s (8 + 6 * c + 3) ∧ I p 4 = s (8 + 6 * c + 4) ∧ I p 5 = s (8 + 6 * c + 5) ∧ I p 6 = s (131 + c)
def StV (I : Nat → Nat → Int32) (st : Nat) (s : Nat → Int32) : Prop :=
  I st 1 = s 3 ∧ I st 2 = s 4 ∧ I st 3 = s 6 ∧ I st 4 = s 5 ∧ ∀ c, c < cl (s 1) → CnV I (st + 2 + c) s c
def StR (I : Nat → Nat → Int32) (R : Nat → Nat → Option Nat) (G : zG) (st pl : Nat) (s : Nat → Int32) : Prop :=
  StS R G st ∧ R st 0 = some pl ∧ PlS R G pl ∧ PlV I pl s ∧ StV I st s
/-! codes: what the class's stack and the reference's do with an entry; w: the WORDS from 0 on -/
def z_f (f : Nat → Int64) (k : Nat) (v : Int64) : Nat → Int64 := fun j => if j = k then v else f j
def jnC (e : Int32) (a b : Int64) : Int64 :=
  if e = -10 then a + b else if e = -11 then a - b else if e = -12 then a * b else if e = -13 then (if b = 0 then 0 else a / b) else if e = -14 then (if a < b then 1 else 0) else
  if e = -15 then (if a ≤ b then 1 else 0) else if e = -16 then (if a = b then 1 else 0) else if e = -17 then (if b ≤ a then 1 else 0) else if e = -18 then (if b < a then 1 else 0) else if e = -19 then a &&& b else a ||| b
def stC (w : Nat → Int64) (e : Int32) (q : (Nat → Int64) × Nat) : (Nat → Int64) × Nat :=
  if -9 ≤ e then (if q.2 < 64 then (z_f q.1 q.2 (if 0 ≤ e then e.toInt64 else w (cl (-e) - 1)), q.2 + 1) else q)
  else if e = -21 then (if 0 < q.2 then (z_f q.1 (q.2 - 1) (1 - q.1 (q.2 - 1)), q.2) else q)
  else if 1 < q.2 then (z_f q.1 (q.2 - 2) (jnC e (q.1 (q.2 - 2)) (q.1 (q.2 - 1))), q.2 - 1) else q
def ruC (w : Nat → Int64) (code : Nat → Int32) : Nat → Nat → (Nat → Int64) × Nat → (Nat → Int64) × Nat
  | _, 0, q => q
  | i, n + 1, q => ruC w code (i + 1) n (stC w (code i) q)
def jnD (s : Int32) (x y : Int64) : Int64 :=
  if s = 2 then x + y else if s = 3 then x - y else if s = 4 then x * y else if s = 5 then (if y = 0 then 0 else x / y) else if s = 6 then (if x < y then 1 else 0) else
  if s = 7 then (if x ≤ y then 1 else 0) else if s = 8 then (if x = y then 1 else 0) else if s = 9 then (if y ≤ x then 1 else 0) else if s = 10 then (if y < x then 1 else 0) else if s = 12 then x &&& y else x ||| y
def stD (w : Nat → Int64) (e : Int32) (q : (Nat → Int64) × Nat) : Option ((Nat → Int64) × Nat) :=
  if e &&& 15 = 0 then (if q.2 < 64 then some (z_f q.1 q.2 (e >>> (4 &&& 31)).toInt64, q.2 + 1) else none)
  else if e &&& 15 = 1 then (if q.2 < 64 ∧ e >>> (4 &&& 31) = nI (cl (e >>> (4 &&& 31))) ∧ cl (e >>> (4 &&& 31)) < 9 then some (z_f q.1 q.2 (w (cl (e >>> (4 &&& 31)))), q.2 + 1) else none)
  else if e &&& 15 = 11 then (if 0 < q.2 ∧ q.2 ≤ 64 then some (z_f q.1 (q.2 - 1) (1 - q.1 (q.2 - 1)), q.2) else none)
  else if 1 < q.2 ∧ q.2 ≤ 64 then some (z_f q.1 (q.2 - 2) (jnD (e &&& 15) (q.1 (q.2 - 2)) (q.1 (q.2 - 1))), q.2 - 1) else none
def ruD (w : Nat → Int64) (code : Nat → Int32) : Nat → Nat → (Nat → Int64) × Nat → Option ((Nat → Int64) × Nat)
  | _, 0, q => some q
  | i, n + 1, q => match stD w (code i) q with
    | none => none
    | some r => ruD w code (i + 1) n r
/-- the class's TEST from f1 to t1 and the reference's from f2 to t2 hold for the same WORDS -/
def ClE (cc : Nat → Int32) (f1 t1 : Nat) (dc : Nat → Int32) (f2 t2 : Nat) : Prop := ∀ (w : Nat → Int64) (s1 s2 : Nat → Int64), ∃ q, ruD w dc f2 (t2 - f2) (s2, 0) = some q ∧ 0 < q.2 ∧ q.2 ≤ 64 ∧ (q.1 (q.2 - 1) = 1 ↔ 0 < (ruC w cc f1 (t1 - f1) (s1, 0)).2 ∧ (ruC w cc f1 (t1 - f1) (s1, 0)).1 0 ≠ 0)
/-- a RULE of the class (cell r), and the reference's of number t -/
def RuS (R : Nat → Nat → Option Nat) (G : zG) (r a b c n k : Nat) : Prop := 71 ≤ r ∧ zo G r 4 ∧ R r 0 = some a ∧ R r 1 = some b ∧ R r 2 = some c ∧ za G a 14 n ∧ za G b 14 k ∧ za G c 14 k ∧ 71 ≤ a ∧ 71 ≤ b ∧ 71 ≤ c ∧ n ≤ 400 ∧ k ≤ 12
def RuV (I : Nat → Nat → Int32) (t a b c n k : Nat) : Prop := I 56 t = nI k ∧ ∃ e : Nat → Nat, e 0 = 0 ∧ ∀ i, i < k → e i ≤ e (i + 1) ∧ e (i + 1) ≤ n ∧ I c i = nI (e (i + 1)) ∧
  ∃ kd f u, kd < 3 ∧ f ≤ u ∧ u ≤ 400 ∧ I b i = nI (kd + 1) ∧ I 55 (36 * t + 3 * i) = nI kd ∧ I 55 (36 * t + 3 * i + 1) = nI f ∧ I 55 (36 * t + 3 * i + 2) = nI u ∧ ClE (I a) (e i) (e (i + 1)) (fun j => I 53 (400 * t + j)) f u
def RuR (I : Nat → Nat → Int32) (R : Nat → Nat → Option Nat) (G : zG) (t r : Nat) : Prop := ∃ a b c n k, RuS R G r a b c n k ∧ RuV I t a b c n k
/-- the TAPES -/
def TpV (I : Nat → Nat → Int32) : Prop := Rg (I 9 1) 401 ∧ I 51 1 = I 9 1 ∧ ∀ k, k < 400 → Rg (I 10 k) 256 ∧ I 52 k = (I 10 k).toInt8.toInt32
/-- the IMAGES -/
def ImN (I : Nat → Nat → Int32) (R : Nat → Nat → Option Nat) (k : Nat) : Prop := I 70 k = 0 ∧ R 37 k = none
def imS (I : Nat → Nat → Int32) (k : Nat) : Nat → Int32 := fun i => I 69 (139 * k + i)
def ImY (I : Nat → Nat → Int32) (R : Nat → Nat → Option Nat) (G : zG) (rn k : Nat) : Prop := I 70 k = 1 ∧ ∃ st pl, R 37 k = some st ∧ 71 ≤ st ∧ StR I R G st pl (imS I k) ∧ SOk (imS I k) rn
def Apart (R : Nat → Nat → Option Nat) : Prop := ∀ k l st su, k < 4 → l < 4 → k ≠ l → R 37 k = some st → R 37 l = some su → st + 10 ≤ su ∨ su + 10 ≤ st
def Inv (j : Nat) (m : zM) : Prop :=
  Sh m.2.2.2 ∧ Rs m.2.2.1 ∧ m.2.2.2.2.2.1 ≤ 71 + 20 * j ∧ m.2.2.2.2.2.2 ≤ 6106 + 1000 * j ∧ TpV m.1 ∧
  (Rg (m.1 0 4) 7 ∧ m.1 51 2 = m.1 0 4 ∧ ∀ t, t < cl (m.1 0 4) → ∃ r, m.2.2.1 16 t = some r ∧ RuR m.1 m.2.2.1 m.2.2.2 t r) ∧
  (∃ pl, StR m.1 m.2.2.1 m.2.2.2 17 pl (m.1 62)) ∧ SOk (m.1 62) (cl (m.1 0 4)) ∧
  (∀ k, k < 4 → ImN m.1 m.2.2.1 k ∨ ImY m.1 m.2.2.1 m.2.2.2 (cl (m.1 0 4)) k) ∧ Apart m.2.2.1
theorem inv_s : InvS Inv := fun _ _ h => ⟨h.1.o0, h.1.o51⟩
/-! the start -/
def i_v : Bool := (List.range 400).all (fun k => decide (zI im2 10 k = 0) && decide (zI im2 52 k = 0)) && decide (zI im2 9 1 = 0) && decide (zI im2 51 1 = 0) && decide (zI im2 0 4 = 0) && decide (zI im2 51 2 = 0) &&
  (List.range 8).all (fun k => decide (zI im2 62 k = if k = 6 then -1 else 0)) && (List.range 4).all (fun k => decide (zI im2 1 k = 0)) && decide (zI im2 17 1 = 0) && decide (zI im2 17 2 = 0) && decide (zI im2 17 3 = -1) && decide (zI im2 17 4 = 0) &&
  (List.range 4).all (fun k => decide (zI im2 70 k = 0) && decide (zR im2 37 k = none)) && decide (zR im2 17 0 = some 1)
theorem i_vv : i_v = true := by decide +kernel
theorem i_shp : Sh im2.2.2.2 := by
  refine ⟨fun q hq => ?_, Nat.le_of_eq i_2.2.1.symm⟩
  have h := List.all_eq_true.mp i_sh q hq
  simp only [Bool.and_eq_true, decide_eq_true_eq] at h
  exact ⟨h.1.1, h.1.2, h.2⟩
theorem i_rsp : Rs im2.2.2.1 := by
  intro q hq
  have h := List.all_eq_true.mp i_rs q hq
  simpa only [decide_eq_true_eq] using h
theorem inv_0 : Inv 0 im2 := by
  have h := i_vv
  simp only [i_v, Bool.and_eq_true, decide_eq_true_eq, List.all_eq_true, List.mem_range] at h
  obtain ⟨⟨⟨⟨⟨⟨⟨⟨⟨⟨⟨⟨h1, h2⟩, h3⟩, h4⟩, h5⟩, h6⟩, h7⟩, h8⟩, h9⟩, h10⟩, h11⟩, h12⟩, h13⟩ := h
  have hS := i_shp
  have hR := i_rsp
  have z0 : cl 0 = 0 := rfl
  have r0 : ∀ b, 0 < b → Rg 0 b := fun b hb => ⟨rfl, hb⟩
  have s0 : im2.1 62 0 = 0 := h6 0 (by omega)
  have s1 : im2.1 62 1 = 0 := h6 1 (by omega)
  have s2 : im2.1 62 2 = 0 := h6 2 (by omega)
  have s3 : im2.1 62 3 = 0 := h6 3 (by omega)
  have s4 : im2.1 62 4 = 0 := h6 4 (by omega)
  have s5 : im2.1 62 5 = 0 := h6 5 (by omega)
  have s6 : im2.1 62 6 = -1 := h6 6 (by omega)
  have s7 : im2.1 62 7 = 0 := h6 7 (by omega)
  have h2 : im2.1 9 1 = 0 := h2
  have h3 : im2.1 51 1 = 0 := h3
  have h4 : im2.1 0 4 = 0 := h4
  have h5 : im2.1 51 2 = 0 := h5
  refine ⟨hS, hR, Nat.le_of_eq i_2.2.1, Nat.le_of_eq i_2.2.2, ⟨by rw [h2]; exact r0 _ (by omega), h3.trans h2.symm, fun k hk => ?_⟩, ⟨by rw [h4]; exact r0 _ (by omega), h5.trans h4.symm, fun t ht => ?_⟩, ⟨1, ?_, h13, ?_, ?_, ?_⟩, ?_, fun k hk => Or.inl (h12 k hk), ?_⟩
  · have a : im2.1 10 k = 0 := (h1 k hk).1
    have b : im2.1 52 k = 0 := (h1 k hk).2
    rw [a, b]
    exact ⟨r0 _ (by omega), by decide⟩
  · rw [h4] at ht
    exact absurd ht (Nat.not_lt_zero _)
  · refine ⟨hS.o17, hR.r17_5, hS.a18, fun c hc => ?_⟩
    match c, hc with
    | 0, _ => exact ⟨hR.r18_0, hS.o19⟩
    | 1, _ => exact ⟨hR.r18_1, hS.o20⟩
    | 2, _ => exact ⟨hR.r18_2, hS.o21⟩
    | 3, _ => exact ⟨hR.r18_3, hS.o22⟩
    | 4, _ => exact ⟨hR.r18_4, hS.o23⟩
    | 5, _ => exact ⟨hR.r18_5, hS.o24⟩
    | 6, _ => exact ⟨hR.r18_6, hS.o25⟩
    | 7, _ => exact ⟨hR.r18_7, hS.o26⟩
  · refine ⟨Or.inl rfl, hS.o1, fun i hi => ?_, fun i hi => ?_, fun i hi => ?_⟩
    · match i, hi with
      | 0, _ => exact hR.r1_4
      | 1, _ => exact hR.r1_5
      | 2, _ => exact hR.r1_6
      | 3, _ => exact hR.r1_7
      | 4, _ => exact hR.r1_8
      | 5, _ => exact hR.r1_9
      | 6, _ => exact hR.r1_10
    · match i, hi with
      | 0, _ => exact hS.a2
      | 1, _ => exact hS.a3
      | 2, _ => exact hS.a4
    · match i, hi with
      | 0, _ => exact hS.a5
      | 1, _ => exact hS.a6
      | 2, _ => exact hS.a7
      | 3, _ => exact hS.a8
  · refine ⟨(h7 0 (by omega)).trans s0.symm, (h7 1 (by omega)).trans s7.symm, (h7 2 (by omega)).trans s1.symm, (h7 3 (by omega)).trans s2.symm, fun m hm => ?_⟩
    rw [s2] at hm
    exact absurd hm (Nat.not_lt_zero _)
  · refine ⟨h8.trans s3.symm, h9.trans s4.symm, h10.trans s6.symm, h11.trans s5.symm, fun c hc => ?_⟩
    rw [s1] at hc
    exact absurd hc (Nat.not_lt_zero _)
  · refine ⟨by rw [s0]; exact r0 _ (by omega), by rw [s1]; exact r0 _ (by omega), by rw [s2]; exact r0 _ (by omega), by rw [s3]; exact r0 _ (by omega), by rw [s5]; exact r0 _ (by omega), Or.inl s6, by rw [s7]; exact r0 _ (by omega), fun c hc => ?_, fun c hc => ?_⟩
    · rw [s1] at hc
      exact absurd hc (Nat.not_lt_zero _)
    · rw [s2] at hc
      exact absurd hc (Nat.not_lt_zero _)
  · intro k l st su hk hl hn e1 e2
    have a : im2.2.2.1 37 k = none := (h12 k hk).2
    rw [a] at e1
    cases e1
