/-! THE MEETINGS in their order, in the reference. -/
theorem gD_l {A B : List Nat} {j : Nat} (h : j < A.length) : (A ++ B).getD j 0 = A.getD j 0 := by
  rw [List.getD_eq_getElem?_getD, List.getD_eq_getElem?_getD, List.getElem?_append_left h]
theorem gD_r {A B : List Nat} {j : Nat} (h : A.length ≤ j) : (A ++ B).getD j 0 = B.getD (j - A.length) 0 := by
  rw [List.getD_eq_getElem?_getD, List.getD_eq_getElem?_getD, List.getElem?_append_right h]
theorem gD_c {b : Nat} {l : List Nat} {j : Nat} (h : 0 < j) : (b :: l).getD j 0 = l.getD (j - 1) 0 := by
  obtain ⟨k, rfl⟩ : ∃ k, j = k + 1 := ⟨j - 1, by omega⟩
  rfl
theorem gD_0 {b : Nat} {l : List Nat} : (b :: l).getD 0 0 = b := rfl
def AR (I : Nat → Nat → Int32) (L : List Nat) : Prop := ∀ j, j < L.length → I 64 j = nI (L.getD (L.length - 1 - j) 0)
def AH (I : Nat → Nat → Int32) (A B : List Nat) : Prop := (∀ j, j < B.length → I 64 j = nI (B.getD (B.length - 1 - j) 0)) ∧ ∀ j, j < A.length → I 64 (B.length + A.length - j) = nI (A.getD j 0)
theorem AH.put {I : Nat → Nat → Int32} {A B : List Nat} {i : Nat} (h : AH I A B) : AR (z_u I 64 B.length (nI i)) (A ++ i :: B) := by
  intro j hj
  have hl : (A ++ i :: B).length = A.length + (B.length + 1) := by simp
  rw [hl] at hj ⊢
  by_cases e : j = B.length
  · subst e
    rw [z_u_same, gD_r (by omega), show A.length + (B.length + 1) - 1 - B.length - A.length = 0 by omega, gD_0]
  · rw [z_u_k _ _ _ e]
    by_cases q : j < B.length
    · rw [gD_r (by omega), gD_c (by omega), show A.length + (B.length + 1) - 1 - j - A.length - 1 = B.length - 1 - j by omega]
      exact h.1 j q
    · rw [gD_l (by omega)]
      have := h.2 (A.length + (B.length + 1) - 1 - j) (by omega)
      rw [show B.length + A.length - (A.length + (B.length + 1) - 1 - j) = j by omega] at this
      exact this
theorem AH.mv {I : Nat → Nat → Int32} {A l : List Nat} {b : Nat} (h : AH I A (b :: l)) : AH (z_u I 64 (l.length + 1) (nI b)) (A ++ [b]) l := by
  have hl : (b :: l).length = l.length + 1 := rfl
  obtain ⟨h1, h2⟩ := h
  rw [hl] at h1 h2
  refine ⟨fun j hj => ?_, fun j hj => ?_⟩
  · rw [z_u_k _ _ _ (by omega)]
    have := h1 j (by omega)
    rw [gD_c (by omega), show l.length + 1 - 1 - j - 1 = l.length - 1 - j by omega] at this
    exact this
  · have ha : (A ++ [b]).length = A.length + 1 := by simp
    rw [ha] at hj ⊢
    by_cases e : j = A.length
    · subst e
      rw [show l.length + (A.length + 1) - A.length = l.length + 1 by omega, z_u_same, gD_r (by omega), Nat.sub_self, gD_0]
    · rw [z_u_k _ _ _ (by omega), gD_l (by omega)]
      have := h2 j (by omega)
      rw [show l.length + 1 + A.length - j = l.length + (A.length + 1) - j by omega] at this
      exact this
def frL (P : Nat → Bool) (dy : Nat → Int32) : Nat → List Nat
  | 0 => []
  | n + 1 => if P n = true then insL dy n (frL P dy n) else frL P dy n
theorem frL_mem {P : Nat → Bool} {dy : Nat → Int32} : ∀ {n a : Nat}, a ∈ frL P dy n → a < n := by
  intro n
  induction n with
  | zero => intro a h; simp [frL] at h
  | succ n ih =>
    intro a h
    unfold frL at h
    split at h
    · rcases insL_mem h with h | h
      · omega
      · have := ih h; omega
    · have := ih h; omega
theorem frL_len {P : Nat → Bool} {dy : Nat → Int32} : ∀ n, (frL P dy n).length ≤ n := by
  intro n
  induction n with
  | zero => exact Nat.le_refl _
  | succ n ih =>
    unfold frL
    split
    · rw [insL_len]; omega
    · omega
theorem lp_ins {x : Nat × (Nat → Int32)} {d : Nat} {J : Nat → Nat → Int64} {R : Nat → Nat → Option Nat} {G : zG} {I0 : Nat → Nat → Int32} {i : Nat} {fr gv : Int32} {s : Nat → Int32} {Q : Option Value → zM → Prop} (hR : Rs R) (hS : Sh G) (hs : I0 62 = s) (hi24 : i < 24) : ∀ (B A : List Nat) (I : Nat → Nat → Int32), A.length + B.length ≤ i → (∀ a, a ∈ B → a < 24) → AH I A B → (∀ p k, p ≠ 64 → I p k = I0 p k) → (∀ I' u4, AR I' (A ++ insL (fun k => s (56 + 3 * k)) i B) → (∀ p k, p ≠ 64 → I' p k = I0 p k) → zOk x (d + 1) 183 102 [.ref 51, .int (fr), .int (gv), .int (nI i), u4] [] (I', J, R, G) Q) → zOk x (d + 1) 183 44 [.ref 51, .int (fr), .int (gv), .int (nI i), .int (nI B.length)] [] (I, J, R, G) Q := by
  intro B
  induction B with
  | nil =>
    intro A I hl hB hA hfr hk
    have hA0 := hA.put (i := i)
    refine k_iload f183_44 rfl ?_
    refine k_if_le f183_46 (fun _ => ?_) (fun h_ => absurd (by decide) h_)
    refine k_aload f183_94 rfl ?_
    refine k_getr (q := 64) f183_95 hS.o51 rfl hR.r51_28 ?_
    refine k_iload f183_98 rfl ?_
    refine k_iload f183_100 rfl ?_
    refine k_is (k := ([] : List Nat).length) f183_101 hS.a64 rfl (by simp) (by decide) ?_
    exact hk _ _ hA0 (fun p k hp => (z_u_p _ _ _ _ hp).trans (hfr p k hp))
  | cons b l ih =>
    intro A I hl hB hA hfr hk
    have hb24 : b < 24 := hB b List.mem_cons_self
    have hl2 : A.length + (l.length + 1) ≤ i := hl
    have eb : I 64 l.length = nI b := by
      have := hA.1 l.length (Nat.lt_succ_self _)
      rw [show (b :: l).length - 1 - l.length = 0 by simp] at this
      exact this
    show zOk x (d + 1) 183 44 [.ref 51, .int (fr), .int (gv), .int (nI i), .int (nI (l.length + 1))] [] (I, J, R, G) Q
    by_cases hlt : s (56 + 3 * i) < s (56 + 3 * b)
    · refine k_iload f183_44 rfl ?_
      refine k_if_le f183_46 (fun h_ => absurd h_ (nI_nle (by omega) (by omega))) (fun _ => ?_)
      refine k_aload f183_49 rfl ?_
      refine k_aload f183_50 rfl ?_
      refine k_getr (q := 64) f183_51 hS.o51 rfl hR.r51_28 ?_
      refine k_iload f183_54 rfl ?_
      refine k_iconst (v := 1) f183_56 rfl ?_
      refine k_isub f183_57 ?_
      refine k_ia (k := l.length) (w := nI b) f183_58 hS.a64 (nI_pred _).symm (by omega) (by decide) eb ?_
      refine k_iconst (v := 0) f183_59 rfl ?_
      refine e_v (as := [.int (0), .int (nI b)]) (rest := []) f183_60 hS.o51 rfl rfl rfl (s_meetOf (c := b) (k := 0) (v := s (56 + 3 * b)) hR hS (by have := hb24; omega) ((congrFun ((funext fun k => hfr 62 k (by omega)).trans hs) _))) ?_
      refine k_aload f183_63 rfl ?_
      refine k_iload f183_64 rfl ?_
      refine k_iconst (v := 0) f183_65 rfl ?_
      refine e_v (as := [.int (0), .int (nI i)]) (rest := [.int (s (56 + 3 * b))]) f183_66 hS.o51 rfl rfl rfl (s_meetOf (c := i) (k := 0) (v := s (56 + 3 * i)) hR hS (by have := hb24; omega) ((congrFun ((funext fun k => hfr 62 k (by omega)).trans hs) _))) ?_
      refine k_ic_le f183_69 (fun h_ => absurd h_ (Int32.not_le.mpr hlt)) (fun _ => ?_)
      refine k_aload f183_72 rfl ?_
      refine k_getr (q := 64) f183_73 hS.o51 rfl hR.r51_28 ?_
      refine k_iload f183_76 rfl ?_
      refine k_aload f183_78 rfl ?_
      refine k_getr (q := 64) f183_79 hS.o51 rfl hR.r51_28 ?_
      refine k_iload f183_82 rfl ?_
      refine k_iconst (v := 1) f183_84 rfl ?_
      refine k_isub f183_85 ?_
      refine k_ia (k := l.length) (w := nI b) f183_86 hS.a64 (nI_pred _).symm (by omega) (by decide) eb ?_
      refine k_is (k := l.length + 1) f183_87 hS.a64 rfl (by omega) (by decide) ?_
      refine k_iinc (w := (nI (l.length + 1)) + (-1)) (L' := [.ref 51, .int (fr), .int (gv), .int (nI i), .int ((nI (l.length + 1)) + (-1))]) f183_88 rfl rfl rfl rfl ?_
      refine k_goto f183_91 ?_
      rw [pk_m1]
      refine ih (A ++ [b]) _ (by simp; omega) (fun a ha => hB a (List.mem_cons_of_mem _ ha)) hA.mv (fun p k hp => (z_u_p _ _ _ _ hp).trans (hfr p k hp)) (fun I' u4 h1 h2 => hk I' u4 ?_ h2)
      rw [show insL (fun k => s (56 + 3 * k)) i (b :: l) = b :: insL (fun k => s (56 + 3 * k)) i l from if_pos hlt]
      rw [List.append_assoc] at h1
      exact h1
    · refine k_iload f183_44 rfl ?_
      refine k_if_le f183_46 (fun h_ => absurd h_ (nI_nle (by omega) (by omega))) (fun _ => ?_)
      refine k_aload f183_49 rfl ?_
      refine k_aload f183_50 rfl ?_
      refine k_getr (q := 64) f183_51 hS.o51 rfl hR.r51_28 ?_
      refine k_iload f183_54 rfl ?_
      refine k_iconst (v := 1) f183_56 rfl ?_
      refine k_isub f183_57 ?_
      refine k_ia (k := l.length) (w := nI b) f183_58 hS.a64 (nI_pred _).symm (by omega) (by decide) eb ?_
      refine k_iconst (v := 0) f183_59 rfl ?_
      refine e_v (as := [.int (0), .int (nI b)]) (rest := []) f183_60 hS.o51 rfl rfl rfl (s_meetOf (c := b) (k := 0) (v := s (56 + 3 * b)) hR hS (by have := hb24; omega) ((congrFun ((funext fun k => hfr 62 k (by omega)).trans hs) _))) ?_
      refine k_aload f183_63 rfl ?_
      refine k_iload f183_64 rfl ?_
      refine k_iconst (v := 0) f183_65 rfl ?_
      refine e_v (as := [.int (0), .int (nI i)]) (rest := [.int (s (56 + 3 * b))]) f183_66 hS.o51 rfl rfl rfl (s_meetOf (c := i) (k := 0) (v := s (56 + 3 * i)) hR hS (by have := hb24; omega) ((congrFun ((funext fun k => hfr 62 k (by omega)).trans hs) _))) ?_
      refine k_ic_le f183_69 (fun _ => ?_) (fun h_ => absurd (Int32.not_lt.mp hlt) h_)
      refine k_aload f183_94 rfl ?_
      refine k_getr (q := 64) f183_95 hS.o51 rfl hR.r51_28 ?_
      refine k_iload f183_98 rfl ?_
      refine k_iload f183_100 rfl ?_
      refine k_is (k := l.length + 1) f183_101 hS.a64 rfl (by omega) (by decide) ?_
      refine hk _ _ ?_ (fun p k hp => (z_u_p _ _ _ _ hp).trans (hfr p k hp))
      rw [show insL (fun k => s (56 + 3 * k)) i (b :: l) = i :: b :: l from if_neg hlt]
      exact hA.put (i := i)
