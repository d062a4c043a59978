/-! TEXT: what stands there. -/
def enT (b : Nat → Nat) (n : Nat) : Sum Nat Nat → Bool
  | .inl _ => false
  | .inr q => decide (kd b n q = 0)
def nuT (b : Nat → Nat) (n : Nat) : Sum Nat Nat → Bool
  | .inl _ => false
  | .inr q => decide (kd b n q = 2)
def siT (b : Nat → Nat) (n c : Nat) : Sum Nat Nat → Bool
  | .inl _ => false
  | .inr q => decide (kd b n q = 3 ∧ sg b n q = c)
def tkB (b : Nat → Nat) (n q : Nat) (w : List Nat) : Bool := decide (isL b n q = true ∧ wl b n q = q + w.length ∧ ∀ i, i < w.length → b (q + i) = w.getD i 0)
def wdT (b : Nat → Nat) (n k : Nat) : Sum Nat Nat → Bool
  | .inl _ => false
  | .inr q => tkB b n q (sBk k)
def wwF (t : Nat → Nat) (L : Nat) : List Nat → Nat → Option Nat → Nat
  | [], _, _ => 0
  | c :: cs, w, s => if c = 32 then (if 0 < L ∧ s = some L then w else wwF t L cs (w + 1) (some 0)) else wwF t L cs w (match s with
    | some j => if j < L ∧ t j = c then some (j + 1) else none
    | none => none)
def lnT (b : Nat → Nat) (n q : Nat) : Nat := if kd b n q = 1 then wl b n q - q else 0
def whT (b : Nat → Nat) (n k : Nat) : Sum Nat Nat → Nat
  | .inl _ => 0
  | .inr q => wwF (fun j => b (q + j)) (lnT b n q) (sBk k) 1 (some 0)
theorem ww_w {t : Nat → Nat} {L : Nat} {rest : List Nat} {k : Nat} : ∀ (w : List Nat) (s : Option Nat), (∀ c ∈ w, c ≠ 32) → wwF t L (w ++ 32 :: rest) k s = if 0 < L ∧ ∃ j, s = some j ∧ j + w.length = L ∧ ∀ i, i < w.length → t (j + i) = w.getD i 0 then k else wwF t L rest (k + 1) (some 0) := by
  intro w
  induction w with
  | nil =>
    intro s _
    show (if 32 = 32 then (if 0 < L ∧ s = some L then k else wwF t L rest (k + 1) (some 0)) else _) = _
    rw [if_pos rfl]
    by_cases h : 0 < L ∧ s = some L
    · rw [if_pos h, if_pos ⟨h.1, L, h.2, by simp, fun i hi => absurd hi (Nat.not_lt_zero _)⟩]
    · rw [if_neg h, if_neg]
      rintro ⟨h1, j, h2, h3, _⟩
      simp at h3
      exact h ⟨h1, h3 ▸ h2⟩
  | cons c w ih =>
    intro s hw
    show (if c = 32 then _ else wwF t L (w ++ 32 :: rest) k _) = _
    rw [if_neg (hw c (List.mem_cons_self ..)), ih _ fun a ha => hw a (List.mem_cons_of_mem _ ha)]
    congr 1
    apply propext
    refine and_congr_right fun hL => ?_
    cases s with
    | none => exact ⟨fun ⟨j, h, _⟩ => (by cases h), fun ⟨j, h, _⟩ => (by cases h)⟩
    | some j =>
      constructor
      · rintro ⟨j2, h1, h2, h3⟩
        have h1 : (if j < L ∧ t j = c then some (j + 1) else none) = some j2 := h1
        by_cases e : j < L ∧ t j = c
        · rw [if_pos e] at h1
          cases h1
          refine ⟨j, rfl, by simp only [List.length_cons]; omega, fun i hi => ?_⟩
          cases i with
          | zero => exact e.2
          | succ i =>
            have := h3 i (by simp only [List.length_cons] at hi; omega)
            rw [show j + 1 + i = j + (i + 1) by omega] at this
            exact this
        · rw [if_neg e] at h1
          cases h1
      · rintro ⟨j2, h1, h2, h3⟩
        cases h1
        simp only [List.length_cons] at h2 h3
        have e : j < L ∧ t j = c := ⟨by omega, h3 0 (by omega)⟩
        show ∃ j1, (if j < L ∧ t j = c then some (j + 1) else none) = some j1 ∧ j1 + w.length = L ∧ ∀ i, i < w.length → t (j1 + i) = w.getD i 0
        rw [if_pos e]
        refine ⟨j + 1, rfl, by omega, fun i hi => ?_⟩
        have := h3 (i + 1) (by omega)
        rw [show j + 1 + i = j + (i + 1) by omega]
        exact this
theorem kd_1 {b : Nat → Nat} {n q : Nat} : kd b n q = 1 ↔ isL b n q = true := by
  unfold kd
  by_cases h : isL b n q = true
  · rw [if_pos h]; exact ⟨fun _ => h, fun _ => rfl⟩
  · rw [if_neg h]
    refine ⟨fun z => ?_, fun z => absurd z h⟩
    split at z
    · cases z
    · split at z <;> cases z
theorem ww_tk {b : Nat → Nat} {n q : Nat} {rest : List Nat} {k : Nat} (w : List Nat) (hw : ∀ c ∈ w, c ≠ 32) (h0 : 0 < w.length) : wwF (fun j => b (q + j)) (lnT b n q) (w ++ 32 :: rest) k (some 0) = if tkB b n q w = true then k else wwF (fun j => b (q + j)) (lnT b n q) rest (k + 1) (some 0) := by
  rw [ww_w w _ hw]
  congr 1
  apply propext
  unfold tkB lnT
  rw [decide_eq_true_eq]
  by_cases h : isL b n q = true
  · rw [if_pos (kd_1.mpr h)]
    have := wl_lt h
    constructor
    · rintro ⟨h1, j, h2, h3, h4⟩
      cases h2
      exact ⟨h, by omega, fun i hi => by have := h4 i hi; rw [Nat.zero_add] at this; exact this⟩
    · rintro ⟨h1, h2, h3⟩
      exact ⟨by omega, 0, rfl, by omega, fun i hi => by rw [Nat.zero_add]; exact h3 i hi⟩
  · rw [if_neg fun z => h (kd_1.mp z)]
    exact ⟨fun z => absurd z.1 (Nat.lt_irrefl _), fun z => absurd z.1 h⟩
theorem wh_5 {b : Nat → Nat} {n q : Nat} : whT b n 5 (.inr q) = if tkB b n q [112, 101, 111, 112, 108, 101] = true then 1 else if tkB b n q [121, 101, 97, 114] = true then 2 else if tkB b n q [99, 111, 105, 110] = true then 3 else if tkB b n q [109, 101, 101, 116] = true then 4 else 0 := by
  show wwF (fun j => b (q + j)) (lnT b n q) ([112, 101, 111, 112, 108, 101] ++ 32 :: ([121, 101, 97, 114] ++ 32 :: ([99, 111, 105, 110] ++ 32 :: ([109, 101, 101, 116] ++ 32 :: ([]))))) 1 (some 0) = _
  rw [ww_tk [112, 101, 111, 112, 108, 101] (by decide) (by decide), ww_tk [121, 101, 97, 114] (by decide) (by decide), ww_tk [99, 111, 105, 110] (by decide) (by decide), ww_tk [109, 101, 101, 116] (by decide) (by decide)]
  rfl
theorem wh_0 {b : Nat → Nat} {n q : Nat} : whT b n 0 (.inr q) = if tkB b n q [112, 97, 121] = true then 1 else if tkB b n q [98, 97, 114] = true then 2 else if tkB b n q [104, 111, 109, 101] = true then 3 else 0 := by
  show wwF (fun j => b (q + j)) (lnT b n q) ([112, 97, 121] ++ 32 :: ([98, 97, 114] ++ 32 :: ([104, 111, 109, 101] ++ 32 :: ([])))) 1 (some 0) = _
  rw [ww_tk [112, 97, 121] (by decide) (by decide), ww_tk [98, 97, 114] (by decide) (by decide), ww_tk [104, 111, 109, 101] (by decide) (by decide)]
  rfl
theorem wh_4 {b : Nat → Nat} {n q : Nat} : whT b n 4 (.inr q) = if tkB b n q [99, 111, 105, 110] = true then 1 else if tkB b n q [119, 111, 114, 116, 104] = true then 2 else if tkB b n q [97, 103, 101] = true then 3 else if tkB b n q [104, 97, 110, 100, 115] = true then 4 else if tkB b n q [115, 116, 114, 97, 110, 103, 101] = true then 5 else if tkB b n q [112, 117, 114, 115, 101] = true then 6 else if tkB b n q [103, 105, 118, 101, 114] = true then 7 else if tkB b n q [116, 97, 107, 101, 114] = true then 8 else if tkB b n q [100, 97, 121] = true then 9 else 0 := by
  show wwF (fun j => b (q + j)) (lnT b n q) ([99, 111, 105, 110] ++ 32 :: ([119, 111, 114, 116, 104] ++ 32 :: ([97, 103, 101] ++ 32 :: ([104, 97, 110, 100, 115] ++ 32 :: ([115, 116, 114, 97, 110, 103, 101] ++ 32 :: ([112, 117, 114, 115, 101] ++ 32 :: ([103, 105, 118, 101, 114] ++ 32 :: ([116, 97, 107, 101, 114] ++ 32 :: ([100, 97, 121] ++ 32 :: ([])))))))))) 1 (some 0) = _
  rw [ww_tk [99, 111, 105, 110] (by decide) (by decide), ww_tk [119, 111, 114, 116, 104] (by decide) (by decide), ww_tk [97, 103, 101] (by decide) (by decide), ww_tk [104, 97, 110, 100, 115] (by decide) (by decide), ww_tk [115, 116, 114, 97, 110, 103, 101] (by decide) (by decide), ww_tk [112, 117, 114, 115, 101] (by decide) (by decide), ww_tk [103, 105, 118, 101, 114] (by decide) (by decide), ww_tk [116, 97, 107, 101, 114] (by decide) (by decide), ww_tk [100, 97, 121] (by decide) (by decide)]
  rfl
theorem s_isEnd {x : Nat × (Nat → Int32)} {d : Nat} {I : Nat → Nat → Int32} {J : Nat → Nat → Int64} {R : Nat → Nat → Option Nat} {G : zG} {b : Nat → Nat} {n : Nat} {t : Sum Nat Nat} (hS : Sh G) (ht : CX I b n t) : zRn x d 50 [.ref 9] (I, J, R, G) (some (.int (bI (enT b n t = true)))) (I, J, R, G) := by
  cases t with
  | inl e =>
    show zOk x d 50 0 [.ref 9] [] _ _
    refine k_aload f50_0 rfl ?_
    refine k_gI (w := 4) f50_1 hS.o9 rfl ht.1 ?_
    refine k_if_ne f50_4 (fun _ => ?_) (fun h_ => absurd (by decide) h_)
    refine k_iconst (v := 0) f50_11 rfl ?_
    exact k_iret f50_12 (by decide) ⟨bI_f (fun h => by cases h), rfl⟩
  | inr q =>
    have k4 := kd_lt (b := b) (n := n) (q := q)
    by_cases h : kd b n q = 0
    · show zOk x d 50 0 [.ref 9] [] _ _
      refine k_aload f50_0 rfl ?_
      refine k_gI (w := nI (kd b n q)) f50_1 hS.o9 rfl ht.2.2.1 ?_
      refine k_if_ne f50_4 (fun h_ => absurd (congrArg nI h) h_) (fun _ => ?_)
      refine k_iconst (v := 1) f50_7 rfl ?_
      refine k_goto f50_8 ?_
      exact k_iret f50_12 (by decide) ⟨bI_t (decide_eq_true h), rfl⟩
    · show zOk x d 50 0 [.ref 9] [] _ _
      refine k_aload f50_0 rfl ?_
      refine k_gI (w := nI (kd b n q)) f50_1 hS.o9 rfl ht.2.2.1 ?_
      refine k_if_ne f50_4 (fun _ => ?_) (fun h_ => absurd ((fun z => h ((nI_eq (b := 0) (by omega) (by omega)).mp z))) h_)
      refine k_iconst (v := 0) f50_11 rfl ?_
      exact k_iret f50_12 (by decide) ⟨bI_f (fun z => h (of_decide_eq_true z)), rfl⟩
theorem s_isNumber {x : Nat × (Nat → Int32)} {d : Nat} {I : Nat → Nat → Int32} {J : Nat → Nat → Int64} {R : Nat → Nat → Option Nat} {G : zG} {b : Nat → Nat} {n : Nat} {t : Sum Nat Nat} (hS : Sh G) (ht : CX I b n t) : zRn x d 51 [.ref 9] (I, J, R, G) (some (.int (bI (nuT b n t = true)))) (I, J, R, G) := by
  cases t with
  | inl e =>
    show zOk x d 51 0 [.ref 9] [] _ _
    refine k_aload f51_0 rfl ?_
    refine k_gI (w := 4) f51_1 hS.o9 rfl ht.1 ?_
    refine k_iconst (v := 2) f51_4 rfl ?_
    refine k_ic_ne f51_5 (fun _ => ?_) (fun h_ => absurd (by decide) h_)
    refine k_iconst (v := 0) f51_12 rfl ?_
    exact k_iret f51_13 (by decide) ⟨bI_f (fun h => by cases h), rfl⟩
  | inr q =>
    have k4 := kd_lt (b := b) (n := n) (q := q)
    by_cases h : kd b n q = 2
    · show zOk x d 51 0 [.ref 9] [] _ _
      refine k_aload f51_0 rfl ?_
      refine k_gI (w := nI (kd b n q)) f51_1 hS.o9 rfl ht.2.2.1 ?_
      refine k_iconst (v := 2) f51_4 rfl ?_
      refine k_ic_ne f51_5 (fun h_ => absurd (congrArg nI h) h_) (fun _ => ?_)
      refine k_iconst (v := 1) f51_8 rfl ?_
      refine k_goto f51_9 ?_
      exact k_iret f51_13 (by decide) ⟨bI_t (decide_eq_true h), rfl⟩
    · show zOk x d 51 0 [.ref 9] [] _ _
      refine k_aload f51_0 rfl ?_
      refine k_gI (w := nI (kd b n q)) f51_1 hS.o9 rfl ht.2.2.1 ?_
      refine k_iconst (v := 2) f51_4 rfl ?_
      refine k_ic_ne f51_5 (fun _ => ?_) (fun h_ => absurd ((fun z => h ((nI_eq (b := 2) (by omega) (by omega)).mp z))) h_)
      refine k_iconst (v := 0) f51_12 rfl ?_
      exact k_iret f51_13 (by decide) ⟨bI_f (fun z => h (of_decide_eq_true z)), rfl⟩
theorem s_isSign {x : Nat × (Nat → Int32)} {d : Nat} {I : Nat → Nat → Int32} {J : Nat → Nat → Int64} {R : Nat → Nat → Option Nat} {G : zG} {b : Nat → Nat} {n : Nat} {t : Sum Nat Nat} (hS : Sh G) (ht : CX I b n t) {c : Nat} (hc : c < 1000) (hT : TP I b n) : zRn x d 52 [.ref 9, .int (nI c)] (I, J, R, G) (some (.int (bI (siT b n c t = true)))) (I, J, R, G) := by
  cases t with
  | inl e =>
    show zOk x d 52 0 [.ref 9, .int (nI c)] [] _ _
    refine k_aload f52_0 rfl ?_
    refine k_gI (w := 4) f52_1 hS.o9 rfl ht.1 ?_
    refine k_iconst (v := 3) f52_4 rfl ?_
    refine k_ic_ne f52_5 (fun _ => ?_) (fun h_ => absurd (by decide) h_)
    refine k_iconst (v := 0) f52_20 rfl ?_
    exact k_iret f52_21 (by decide) ⟨bI_f (fun h => by cases h), rfl⟩
  | inr q =>
    have k4 := kd_lt (b := b) (n := n) (q := q)
    by_cases h : kd b n q = 3
    · have s9 : sg b n q < 1000 := by
        unfold sg
        have kn : q < n := by
          by_cases z : q < n
          · exact z
          · exfalso
            unfold kd at h
            split at h
            · cases h
            · split at h
              · cases h
              · omega
        have := (hT.2 q (by have := hT.1; omega)).1
        split <;> omega
      by_cases hs : sg b n q = c
      · show zOk x d 52 0 [.ref 9, .int (nI c)] [] _ _
        refine k_aload f52_0 rfl ?_
        refine k_gI (w := nI (kd b n q)) f52_1 hS.o9 rfl ht.2.2.1 ?_
        refine k_iconst (v := 3) f52_4 rfl ?_
        refine k_ic_ne f52_5 (fun h_ => absurd (congrArg nI h) h_) (fun _ => ?_)
        refine k_aload f52_8 rfl ?_
        refine k_gI (w := nI (sg b n q)) f52_9 hS.o9 rfl (ht.2.2.2.1 h) ?_
        refine k_iload f52_12 rfl ?_
        refine k_ic_ne f52_13 (fun h_ => absurd (congrArg nI hs) h_) (fun _ => ?_)
        refine k_iconst (v := 1) f52_16 rfl ?_
        refine k_goto f52_17 ?_
        exact k_iret f52_21 (by decide) ⟨bI_t (decide_eq_true ⟨h, hs⟩), rfl⟩
      · show zOk x d 52 0 [.ref 9, .int (nI c)] [] _ _
        refine k_aload f52_0 rfl ?_
        refine k_gI (w := nI (kd b n q)) f52_1 hS.o9 rfl ht.2.2.1 ?_
        refine k_iconst (v := 3) f52_4 rfl ?_
        refine k_ic_ne f52_5 (fun h_ => absurd (congrArg nI h) h_) (fun _ => ?_)
        refine k_aload f52_8 rfl ?_
        refine k_gI (w := nI (sg b n q)) f52_9 hS.o9 rfl (ht.2.2.2.1 h) ?_
        refine k_iload f52_12 rfl ?_
        refine k_ic_ne f52_13 (fun _ => ?_) (fun h_ => absurd ((fun z => hs ((nI_eq (by omega) (by omega)).mp z))) h_)
        refine k_iconst (v := 0) f52_20 rfl ?_
        exact k_iret f52_21 (by decide) ⟨bI_f (fun z => hs (of_decide_eq_true z).2), rfl⟩
    · show zOk x d 52 0 [.ref 9, .int (nI c)] [] _ _
      refine k_aload f52_0 rfl ?_
      refine k_gI (w := nI (kd b n q)) f52_1 hS.o9 rfl ht.2.2.1 ?_
      refine k_iconst (v := 3) f52_4 rfl ?_
      refine k_ic_ne f52_5 (fun _ => ?_) (fun h_ => absurd ((fun z => h ((nI_eq (b := 3) (by omega) (by omega)).mp z))) h_)
      refine k_iconst (v := 0) f52_20 rfl ?_
      exact k_iret f52_21 (by decide) ⟨bI_f (fun z => h (of_decide_eq_true z).1), rfl⟩
theorem q_next {x : Nat × (Nat → Int32)} {d : Nat} {I : Nat → Nat → Int32} {J : Nat → Nat → Int64} {R : Nat → Nat → Option Nat} {G : zG} {b : Nat → Nat} {n : Nat} {t : Sum Nat Nat} (hR : Rs R) (hS : Sh G) (hT : TP I b n) (ht : CX I b n t) : zOk x d 49 0 [.ref 9, zU] [] (I, J, R, G) (fun v m => v = none ∧ ∃ I', m = (I', J, R, G) ∧ CX I' b n (nxT b n t) ∧ F9 I I') := by
  cases t with
  | inl e =>
    refine k_aload f49_0 rfl ?_
    refine k_gI (w := 4) f49_1 hS.o9 rfl ht.1 ?_
    refine k_iconst (v := 4) f49_4 rfl ?_
    refine k_ic_ne f49_5 (fun h_ => absurd rfl h_) (fun _ => ?_)
    exact k_vret f49_8 ⟨rfl, I, rfl, ht, F9.rfl⟩
  | inr q =>
    obtain ⟨h2, h3, h4, _, _, h7, h1, hq⟩ := ht
    have k4 := kd_lt (b := b) (n := n) (q := q)
    exact s_next0 hR hS hT h1 (by rw [h4]; exact fun z => absurd ((nI_eq (b := 4) (by omega) (by omega)).mp z) (by omega)) h3 (ed_le hq).2 h7
theorem q_fail {x : Nat × (Nat → Int32)} {d : Nat} {I : Nat → Nat → Int32} {J : Nat → Nat → Int64} {R : Nat → Nat → Option Nat} {G : zG} {b : Nat → Nat} {n w : Nat} {t : Sum Nat Nat} (hS : Sh G) (hn4 : n ≤ 400) (hw : w < 8) (ht : CX I b n t) : zOk x d 55 0 [.ref 9, .int (nI w)] [] (I, J, R, G) (fun v m => v = none ∧ ∃ I', m = (I', J, R, G) ∧ CX I' b n (flT w t) ∧ F9 I I') := by
  cases t with
  | inl e =>
    refine k_aload f55_0 rfl ?_
    refine k_gI (w := nI e) f55_1 hS.o9 rfl ht.2.1 ?_
    refine k_if_ne f55_4 (fun _ => ?_) (fun h_ => absurd ((fun z => absurd ((nI_eq (b := 0) (by have := ht.2.2.2.1; omega) (by omega)).mp z) (by have := ht.2.2.1; omega))) h_)
    refine k_aload f55_22 rfl ?_
    refine k_iconst (v := 4) f55_23 rfl ?_
    refine k_putI f55_24 hS.o9 rfl ?_
    exact k_vret f55_27 ⟨rfl, _, rfl, ⟨(z_u_same _ _ _ _), (Eq.trans (z_u_k _ _ _ (by decide)) ht.2.1), ht.2.2.1, ht.2.2.2.1, (Eq.trans (z_u_k _ _ _ (by decide)) ht.2.2.2.2)⟩, fun p k h => (z_u_p _ _ _ _ h).trans (rfl)⟩
  | inr q =>
    have hq := ht.2.2.2.2.2.2.2
    refine k_aload f55_0 rfl ?_
    refine k_gI (w := 0) f55_1 hS.o9 rfl ht.2.2.2.2.2.1 ?_
    refine k_if_ne f55_4 (fun h_ => absurd (by decide) h_) (fun _ => ?_)
    refine k_aload f55_7 rfl ?_
    refine k_iconst (v := 1) f55_8 rfl ?_
    refine k_iconst (v := 8) f55_9 rfl ?_
    refine k_aload f55_11 rfl ?_
    refine k_gI (w := nI q) f55_12 hS.o9 rfl ht.1 ?_
    refine k_imul f55_15 ?_
    refine k_iadd f55_16 ?_
    refine k_iload f55_17 rfl ?_
    refine k_iadd f55_18 ?_
    rw [show (1 : Int32) + 8 * nI q + nI w = nI (1 + 8 * q + w) from by rw [← nI_add, ← nI_add, ← pk_mul]; rfl]
    refine k_putI f55_19 hS.o9 rfl ?_
    refine k_aload f55_22 rfl ?_
    refine k_iconst (v := 4) f55_23 rfl ?_
    refine k_putI f55_24 hS.o9 rfl ?_
    exact k_vret f55_27 ⟨rfl, _, rfl, ⟨(z_u_same _ _ _ _), (Eq.trans (z_u_k _ _ _ (by decide)) (z_u_same _ _ _ _)), by omega, by omega, (Eq.trans (z_u_k _ _ _ (by decide)) (Eq.trans (z_u_k _ _ _ (by decide)) ht.2.2.2.2.2.2.1))⟩, fun p k h => (z_u_p _ _ _ _ h).trans ((z_u_p _ _ _ _ h).trans (rfl))⟩
