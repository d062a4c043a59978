/-! RULES, read in the reference: what is open. -/
def FT (t : Nat) (I I' : Nat → Nat → Int32) : Prop := ∀ p k, ¬ (p = 51 ∧ ((13 ≤ k ∧ k ≤ 18 ∧ k ≠ 16) ∨ k = 21)) → p ≠ 59 → ¬ (p = 54 ∧ k = t) → ¬ (p = 53 ∧ 400 * t ≤ k ∧ k < 400 * t + 400) → I' p k = I p k
theorem FT.rfl {t : Nat} {I : Nat → Nat → Int32} : FT t I I := fun _ _ _ _ _ _ => Eq.refl _
theorem FT.trans {t : Nat} {I I1 I2 : Nat → Nat → Int32} (h1 : FT t I I1) (h2 : FT t I1 I2) : FT t I I2 := fun p k a c e f => (h2 p k a c e f).trans (h1 p k a c e f)
theorem FDt.ft {t : Nat} {I I' : Nat → Nat → Int32} (h : FDt t I I') : FT t I I' := fun p k a _ e f => h p k (fun z => a ⟨z.1, Or.inl ⟨z.2.1, by omega, z.2.2.2⟩⟩) e f
theorem LX.ft {t : Nat} {I I' : Nat → Nat → Int32} (h : LX I I') : FT t I I' := (h.fd (t := t)).ft
theorem FT.put {t q j : Nat} {v : Int32} {I I' : Nat → Nat → Int32} (h : FT t I I') (hq : (q = 51 ∧ ((13 ≤ j ∧ j ≤ 18 ∧ j ≠ 16) ∨ j = 21)) ∨ q = 59) : FT t I (z_u I' q j v) := fun p k a c e f => (z_u_no _ _ (by rintro ⟨rfl, rfl⟩; rcases hq with g | g; exact a g; exact c g)).trans (h p k a c e f)
theorem FT.tp {t n : Nat} {I I' : Nat → Nat → Int32} {b : Nat → Nat} (h : FT t I I') (g : TP I b n) : TP I' b n := g.keep (fun k => h 10 k (fun z => absurd z.1 (by decide)) (by decide) (fun z => absurd z.1 (by decide)) (fun z => absurd z.1 (by decide))) (fun k => h 52 k (fun z => absurd z.1 (by decide)) (by decide) (fun z => absurd z.1 (by decide)) (fun z => absurd z.1 (by decide)))
def SA (I : Nat → Nat → Int32) : List Nat → Prop
  | [] => True
  | s :: S => I 59 S.length = nI s ∧ SA I S
def cnO : List Nat → Nat
  | [] => 0
  | s :: S => (if s = 11 ∨ s = 91 then 1 else 0) + cnO S
def ok4 (S : List Nat) : Prop := ∀ s ∈ S, s = 11 ∨ s = 12 ∨ s = 13 ∨ s = 91
def SK (I : Nat → Nat → Int32) (S : List Nat) (d : Nat) : Prop := I 51 21 = nI S.length ∧ I 51 18 = nI (10 - d) ∧ d + cnO S = 10 ∧ SA I S ∧ ok4 S
theorem SA.keep {I I' : Nat → Nat → Int32} (e : ∀ i, I' 59 i = I 59 i) : ∀ S, SA I S → SA I' S := by
  intro S
  induction S with
  | nil => intro _; trivial
  | cons s S ih => intro h; exact ⟨(e _).trans h.1, ih h.2⟩
theorem SA.up {I : Nat → Nat → Int32} {j : Nat} {v : Int32} : ∀ S : List Nat, S.length ≤ j → SA I S → SA (z_u I 59 j v) S := by
  intro S
  induction S with
  | nil => intro _ _; trivial
  | cons s S ih =>
    intro hj h
    have hj : S.length + 1 ≤ j := hj
    exact ⟨(z_u_k _ _ _ (by omega)).trans h.1, ih (by omega) h.2⟩
theorem SK.keep {I I' : Nat → Nat → Int32} {S : List Nat} {d : Nat} (h : SK I S d) (h1 : I' 51 21 = I 51 21) (h2 : I' 51 18 = I 51 18) (h3 : ∀ i, I' 59 i = I 59 i) : SK I' S d := ⟨h1.trans h.1, h2.trans h.2.1, h.2.2.1, SA.keep h3 S h.2.2.2.1, h.2.2.2.2⟩
theorem SK.fd {t : Nat} {I I' : Nat → Nat → Int32} {S : List Nat} {d : Nat} (h : SK I S d) (hf : FDt t I I') : SK I' S d := h.keep (hf 51 21 (by omega) (by omega) (by omega)) (hf 51 18 (by omega) (by omega) (by omega)) (fun i => hf 59 i (by omega) (by omega) (by omega))
theorem SK.lx {I I' : Nat → Nat → Int32} {S : List Nat} {d : Nat} (h : SK I S d) (hl : LX I I') : SK I' S d := h.fd (hl.fd (t := 0))
theorem SK.put {q j : Nat} {v : Int32} {I : Nat → Nat → Int32} {S : List Nat} {d : Nat} (h : SK I S d) (hq : q ≠ 59 ∧ ¬ (q = 51 ∧ (j = 18 ∨ j = 21))) : SK (z_u I q j v) S d := h.keep (z_u_no _ _ (by omega)) (z_u_no _ _ (by omega)) (fun i => z_u_no _ _ (by omega))
theorem SK.push {I : Nat → Nat → Int32} {S : List Nat} {d w : Nat} (h : SK I S d) (hd : 1 ≤ d) (hw : w = 11 ∨ w = 91) : SK (z_u (z_u (z_u I 51 18 (nI (10 - d + 1))) 59 S.length (nI w)) 51 21 (nI (S.length + 1))) (w :: S) (d - 1) := by
  obtain ⟨h1, h2, h3, h4, h5⟩ := h
  refine ⟨z_u_same _ _ _ _, ?_, ?_, ⟨?_, ?_⟩, ?_⟩
  · rw [z_u_k _ _ _ (by decide), z_u_p _ _ _ _ (by decide), z_u_same, show 10 - d + 1 = 10 - (d - 1) by omega]
  · show d - 1 + ((if w = 11 ∨ w = 91 then 1 else 0) + cnO S) = 10
    rw [if_pos hw]
    omega
  · rw [z_u_p _ _ _ _ (by decide), z_u_same]
  · refine SA.keep (I := z_u (z_u I 51 18 (nI (10 - d + 1))) 59 S.length (nI w)) (fun i => z_u_p _ _ _ _ (by decide)) S (SA.up S (Nat.le_refl _) (SA.keep (fun i => z_u_p _ _ _ _ (by decide)) S h4))
  · intro s hs
    rcases List.mem_cons.mp hs with rfl | hs
    · rcases hw with rfl | rfl
      · exact Or.inl rfl
      · exact Or.inr (Or.inr (Or.inr rfl))
    · exact h5 s hs
/-- and, or -/
theorem SK.join {I : Nat → Nat → Int32} {S : List Nat} {d w : Nat} (h : SK I S d) (hw : w = 12 ∨ w = 13) : SK (z_u (z_u I 59 S.length (nI w)) 51 21 (nI (S.length + 1))) (w :: S) d := by
  obtain ⟨h1, h2, h3, h4, h5⟩ := h
  refine ⟨z_u_same _ _ _ _, ?_, ?_, ⟨?_, ?_⟩, ?_⟩
  · rw [z_u_k _ _ _ (by decide), z_u_p _ _ _ _ (by decide)]; exact h2
  · show d + ((if w = 11 ∨ w = 91 then 1 else 0) + cnO S) = 10
    rw [if_neg (by omega)]
    omega
  · rw [z_u_p _ _ _ _ (by decide), z_u_same]
  · refine SA.keep (I := z_u I 59 S.length (nI w)) (fun i => z_u_p _ _ _ _ (by decide)) S (SA.up S (Nat.le_refl _) h4)
  · intro s hs
    rcases List.mem_cons.mp hs with rfl | hs
    · rcases hw with rfl | rfl
      · exact Or.inr (Or.inl rfl)
      · exact Or.inr (Or.inr (Or.inl rfl))
    · exact h5 s hs
/-- one is taken off -/
theorem SK.pop {I : Nat → Nat → Int32} {S : List Nat} {d s : Nat} (h : SK I (s :: S) d) (hs : s = 11 ∨ s = 91) : SK (z_u (z_u I 51 21 (nI S.length)) 51 18 (nI (10 - (d + 1)))) S (d + 1) := by
  obtain ⟨h1, h2, h3, h4, h5⟩ := h
  refine ⟨(z_u_k _ _ _ (by decide)).trans (z_u_same _ _ _ _), z_u_same _ _ _ _, ?_, SA.keep (fun i => (z_u_p _ _ _ _ (by decide)).trans (z_u_p _ _ _ _ (by decide))) S h4.2, fun s' hs' => h5 s' (List.mem_cons_of_mem _ hs')⟩
  have h3 : d + ((if s = 11 ∨ s = 91 then 1 else 0) + cnO S) = 10 := h3
  rw [if_pos hs] at h3
  omega
theorem SK.pop0 {I : Nat → Nat → Int32} {S : List Nat} {d s : Nat} (h : SK I (s :: S) d) (hs : ¬ (s = 11 ∨ s = 91)) : SK (z_u I 51 21 (nI S.length)) S d := by
  obtain ⟨h1, h2, h3, h4, h5⟩ := h
  refine ⟨z_u_same _ _ _ _, (z_u_k _ _ _ (by decide)).trans h2, ?_, SA.keep (fun i => z_u_p _ _ _ _ (by decide)) S h4.2, fun s' hs' => h5 s' (List.mem_cons_of_mem _ hs')⟩
  have h3 : d + ((if s = 11 ∨ s = 91 then 1 else 0) + cnO S) = 10 := h3
  rw [if_neg hs] at h3
  omega
theorem SA.mem {I : Nat → Nat → Int32} : ∀ S : List Nat, SA I S → ok4 S → (91 ∈ S ↔ ∃ j, j < S.length ∧ I 59 j = 91) := by
  intro S
  induction S with
  | nil => intro _ _; exact ⟨fun h => absurd h List.not_mem_nil, fun ⟨j, h, _⟩ => absurd h (Nat.not_lt_zero _)⟩
  | cons s S ih =>
    intro h ho
    have ih := ih h.2 (fun s' hs' => ho s' (List.mem_cons_of_mem _ hs'))
    have hs := ho s (List.mem_cons_self ..)
    constructor
    · intro hm
      rcases List.mem_cons.mp hm with e | hm
      · exact ⟨S.length, Nat.lt_succ_self _, h.1.trans (by rw [← e]; rfl)⟩
      · obtain ⟨j, h1, h2⟩ := ih.mp hm
        exact ⟨j, Nat.lt_succ_of_lt h1, h2⟩
    · rintro ⟨j, h1, h2⟩
      have h1 : j < S.length + 1 := h1
      by_cases e : j = S.length
      · subst e
        have e2 : nI s = nI 91 := h.1.symm.trans h2
        have := (nI_eq (by omega) (by omega)).mp e2
        exact List.mem_cons.mpr (Or.inl this.symm)
      · exact List.mem_cons_of_mem _ (ih.mpr ⟨j, by omega, h2⟩)
theorem st_len {k : Nat} : ∀ (S : List Nat) (d : Nat), (stQ k S d).1.length + (stQ k S d).2.2.length = S.length := by
  intro S
  induction S with
  | nil => intro d; rfl
  | cons s S ih =>
    intro d
    rw [stQ_c]
    by_cases h : k ≤ sgth s
    · rw [if_pos h]
      have := ih (if s = 11 then d + 1 else d)
      show (stQ k S (if s = 11 then d + 1 else d)).1.length + ((stQ k S (if s = 11 then d + 1 else d)).2.2.length + 1) = S.length + 1
      omega
    · rw [if_neg h]
      rfl
theorem st_91 : ∀ (S : List Nat) (d : Nat), ok4 S → 91 ∈ S → ∃ X, (stQ 1 S d).1 = 91 :: X := by
  intro S
  induction S with
  | nil => intro d _ h; exact absurd h List.not_mem_nil
  | cons s S ih =>
    intro d ho h
    rw [stQ_c]
    by_cases g : 1 ≤ sgth s
    · rw [if_pos g]
      rcases List.mem_cons.mp h with e | h
      · rw [← e] at g; exact absurd g (by decide)
      · exact ih _ (fun s' hs' => ho s' (List.mem_cons_of_mem _ hs')) h
    · rw [if_neg g]
      rcases ho s (List.mem_cons_self ..) with e | e | e | e
      · rw [e] at g; exact absurd (by decide) g
      · rw [e] at g; exact absurd (by decide) g
      · rw [e] at g; exact absurd (by decide) g
      · exact ⟨S, by rw [e]⟩
theorem s_open0 {x : Nat × (Nat → Int32)} {d : Nat} {I : Nat → Nat → Int32} {J : Nat → Nat → Int64} {R : Nat → Nat → Option Nat} {G : zG} {q w : Nat} (hS : Sh G) (h18 : I 51 18 = nI 10) (h13 : I 51 13 = nI q) (h14 : I 51 14 = 0) : zRn x (d + 1) 126 [.ref 51, .int (nI w)] (I, J, R, G) (some (.int (0))) (z_u I 51 14 (nI (1 + 8 * q + 2)), J, R, G) := by
  show zOk x (d + 1) 126 0 [.ref 51, .int (nI w)] [] _ _
  refine k_aload f126_0 rfl ?_
  refine k_gI (w := nI 10) f126_1 hS.o51 rfl h18 ?_
  refine k_iconst (v := 10) f126_4 rfl ?_
  refine k_ic_ne f126_6 (fun h_ => absurd (rfl) h_) (fun _ => ?_)
  refine k_aload f126_9 rfl ?_
  refine k_iconst (v := 2) f126_10 rfl ?_
  refine k_aload f126_11 rfl ?_
  refine k_gI (w := nI q) f126_12 hS.o51 rfl h13 ?_
  refine e_v (as := [.int (nI q), .int (2)]) (rest := []) f126_15 hS.o51 rfl rfl rfl (s_fails (w := 2) (a := q) hS h14) ?_
  exact k_iret f126_18 (by decide) ⟨rfl, rfl⟩
theorem s_open1 {x : Nat × (Nat → Int32)} {d : Nat} {I : Nat → Nat → Int32} {J : Nat → Nat → Int64} {R : Nat → Nat → Option Nat} {G : zG} {e s w : Nat} (hR : Rs R) (hS : Sh G) (h18 : I 51 18 = nI e) (he : e < 10) (h21 : I 51 21 = nI s) (hs : s < 400) : zRn x d 126 [.ref 51, .int (nI w)] (I, J, R, G) (some (.int (1))) (z_u (z_u (z_u I 51 18 (nI (e + 1))) 59 s (nI w)) 51 21 (nI (s + 1)), J, R, G) := by
  show zOk x d 126 0 [.ref 51, .int (nI w)] [] _ _
  refine k_aload f126_0 rfl ?_
  refine k_gI (w := nI e) f126_1 hS.o51 rfl h18 ?_
  refine k_iconst (v := 10) f126_4 rfl ?_
  refine k_ic_ne f126_6 (fun _ => ?_) (fun h_ => absurd ((fun z => absurd ((nI_eq (b := 10) (by omega) (by omega)).mp z) (by omega))) h_)
  refine k_aload f126_19 rfl ?_
  refine k_dup f126_20 ?_
  refine k_gI (w := nI e) f126_21 hS.o51 rfl h18 ?_
  refine k_iconst (v := 1) f126_24 rfl ?_
  refine k_iadd f126_25 ?_
  rw [nI_1 e]
  refine k_putI f126_26 hS.o51 rfl ?_
  refine k_aload f126_29 rfl ?_
  refine k_getr (q := 59) f126_30 hS.o51 rfl hR.r51_20 ?_
  refine k_aload f126_33 rfl ?_
  refine k_gI (w := nI s) f126_34 hS.o51 rfl (Eq.trans (z_u_k _ _ _ (by decide)) h21) ?_
  refine k_iload f126_37 rfl ?_
  refine k_is (k := s) f126_38 hS.a59 rfl (by omega) (by decide) ?_
  refine k_aload f126_39 rfl ?_
  refine k_dup f126_40 ?_
  refine k_gI (w := nI s) f126_41 hS.o51 rfl (Eq.trans (z_u_p _ _ _ _ (by decide)) (Eq.trans (z_u_k _ _ _ (by decide)) h21)) ?_
  refine k_iconst (v := 1) f126_44 rfl ?_
  refine k_iadd f126_45 ?_
  rw [nI_1 s]
  refine k_putI f126_46 hS.o51 rfl ?_
  refine k_iconst (v := 1) f126_49 rfl ?_
  exact k_iret f126_50 (by decide) ⟨rfl, rfl⟩
theorem s_strg {x : Nat × (Nat → Int32)} {d : Nat} {I : Nat → Nat → Int32} {J : Nat → Nat → Int64} {R : Nat → Nat → Option Nat} {G : zG} {s : Nat} (h : s = 11 ∨ s = 12 ∨ s = 13 ∨ s = 91) : zRn x d 127 [.int (nI s)] (I, J, R, G) (some (.int (nI (sgth s)))) (I, J, R, G) := by
  rcases h with rfl | rfl | rfl | rfl
  · show zOk x d 127 0 [.int (nI 11)] [] _ _
    refine k_iload f127_0 rfl ?_
    refine k_iconst (v := 13) f127_1 rfl ?_
    refine k_ic_ne f127_3 (fun _ => ?_) (fun h_ => absurd (by decide) h_)
    refine k_iload f127_10 rfl ?_
    refine k_iconst (v := 12) f127_11 rfl ?_
    refine k_ic_ne f127_13 (fun _ => ?_) (fun h_ => absurd (by decide) h_)
    refine k_iload f127_20 rfl ?_
    refine k_iconst (v := 11) f127_21 rfl ?_
    refine k_ic_ne f127_23 (fun h_ => absurd (by decide) h_) (fun _ => ?_)
    refine k_iconst (v := 3) f127_26 rfl ?_
    refine k_goto f127_27 ?_
    exact k_iret f127_31 rfl ⟨rfl, rfl⟩
  · show zOk x d 127 0 [.int (nI 12)] [] _ _
    refine k_iload f127_0 rfl ?_
    refine k_iconst (v := 13) f127_1 rfl ?_
    refine k_ic_ne f127_3 (fun _ => ?_) (fun h_ => absurd (by decide) h_)
    refine k_iload f127_10 rfl ?_
    refine k_iconst (v := 12) f127_11 rfl ?_
    refine k_ic_ne f127_13 (fun h_ => absurd (by decide) h_) (fun _ => ?_)
    refine k_iconst (v := 2) f127_16 rfl ?_
    refine k_goto f127_17 ?_
    exact k_iret f127_31 rfl ⟨rfl, rfl⟩
  · show zOk x d 127 0 [.int (nI 13)] [] _ _
    refine k_iload f127_0 rfl ?_
    refine k_iconst (v := 13) f127_1 rfl ?_
    refine k_ic_ne f127_3 (fun h_ => absurd (by decide) h_) (fun _ => ?_)
    refine k_iconst (v := 1) f127_6 rfl ?_
    refine k_goto f127_7 ?_
    exact k_iret f127_31 rfl ⟨rfl, rfl⟩
  · show zOk x d 127 0 [.int (nI 91)] [] _ _
    refine k_iload f127_0 rfl ?_
    refine k_iconst (v := 13) f127_1 rfl ?_
    refine k_ic_ne f127_3 (fun _ => ?_) (fun h_ => absurd (by decide) h_)
    refine k_iload f127_10 rfl ?_
    refine k_iconst (v := 12) f127_11 rfl ?_
    refine k_ic_ne f127_13 (fun _ => ?_) (fun h_ => absurd (by decide) h_)
    refine k_iload f127_20 rfl ?_
    refine k_iconst (v := 11) f127_21 rfl ?_
    refine k_ic_ne f127_23 (fun _ => ?_) (fun h_ => absurd (by decide) h_)
    refine k_iconst (v := 0) f127_30 rfl ?_
    exact k_iret f127_31 rfl ⟨rfl, rfl⟩
def FS (I I' : Nat → Nat → Int32) : Prop := ∀ p k, p ≠ 53 → p ≠ 54 → ¬ (p = 51 ∧ (k = 18 ∨ k = 21)) → I' p k = I p k
theorem FS.rfl {I : Nat → Nat → Int32} : FS I I := fun _ _ _ _ _ => Eq.refl _
theorem FS.trans {I I1 I2 : Nat → Nat → Int32} (h1 : FS I I1) (h2 : FS I1 I2) : FS I I2 := fun p k a c e => (h2 p k a c e).trans (h1 p k a c e)
theorem RX.fs {I I' : Nat → Nat → Int32} {n q : Nat} (h : RX I n q) (hs : FS I I') : RX I' n q := ⟨(hs 51 13 (by decide) (by decide) (by decide)).trans h.1, h.2.1, (hs 51 14 (by decide) (by decide) (by decide)).trans h.2.2.1, (hs 51 1 (by decide) (by decide) (by decide)).trans h.2.2.2⟩
theorem RD.fs {I I' : Nat → Nat → Int32} {b : Nat → Nat} {n t p m L L' : Nat} (h : RD I b n t p m L) (hs : FS I I') (hr : RT I' t m L') : RD I' b n t p m L' := by
  obtain ⟨⟨q, hx, hq⟩, _⟩ := h
  exact ⟨⟨q, hx.fs hs, hq⟩, hr⟩
theorem RT.put {I : Nat → Nat → Int32} {t m L q j : Nat} {v : Int32} (h : RT I t m L) (hq : q ≠ 54 ∧ ¬ (q = 51 ∧ (j = 16 ∨ j = 17))) : RT (z_u I q j v) t m L := ⟨(z_u_no _ _ (by omega)).trans h.1, (z_u_no _ _ (by omega)).trans h.2.1, (z_u_no _ _ (by omega)).trans h.2.2.1, h.2.2.2⟩
def PS (I I' : Nat → Nat → Int32) (t m L : Nat) (r : List Nat × Nat × List It) : Prop := FT t I I' ∧ FS I I' ∧ RT I' t m (L + r.2.2.length) ∧ SK I' r.1 r.2.1 ∧ DA I I' t L r.2.2
theorem q_settles {x : Nat × (Nat → Int32)} {d : Nat} {J : Nat → Nat → Int64} {R : Nat → Nat → Option Nat} {G : zG} {t m k : Nat} (hR : Rs R) (hS : Sh G) (ht : t < 6) (hk0 : 1 ≤ k) (hk : k ≤ 3) : ∀ (S : List Nat) (L dd : Nat) (I : Nat → Nat → Int32), L + S.length ≤ 400 → RT I t m L → SK I S dd → zOk x (d + 1) 128 0 [.ref 51, .int (nI k)] [] (I, J, R, G) (fun v mm => v = none ∧ ∃ I', mm = (I', J, R, G) ∧ PS I I' t m L (stQ k S dd)) := by
  intro S
  induction S with
  | nil =>
    intro L dd I hL hr hs
    refine k_aload f128_0 rfl ?_
    refine k_gI (w := nI 0) f128_1 hS.o51 rfl hs.1 ?_
    refine k_if_le f128_4 (fun _ => ?_) (fun h_ => absurd (by decide) h_)
    exact k_vret f128_76 ⟨rfl, _, rfl, FT.rfl, FS.rfl, hr, hs, DA.nil (fun _ => rfl)⟩
  | cons s S ih =>
    intro L dd I hL hr hs
    have hL : L + (S.length + 1) ≤ 400 := hL
    have h4 := hs.2.2.2.2 s (List.mem_cons_self ..)
    have s3 : sgth s ≤ 3 := by rcases h4 with rfl | rfl | rfl | rfl <;> decide
    have e21 : I 51 21 = nI (S.length + 1) := hs.1
    have e59 : I 59 S.length = nI s := hs.2.2.2.1.1
    have e18 : I 51 18 = nI (10 - dd) := hs.2.1
    have h400 : S.length < 400 := by omega
    show zOk x (d + 1) 128 0 _ [] _ (fun v mm => v = none ∧ ∃ I', mm = (I', J, R, G) ∧ PS I I' t m L (if k ≤ sgth s then ((stQ k S (if s = 11 then dd + 1 else dd)).1, (stQ k S (if s = 11 then dd + 1 else dd)).2.1, (s, 0) :: (stQ k S (if s = 11 then dd + 1 else dd)).2.2) else (s :: S, dd, [])))
    by_cases hg : k ≤ sgth s
    · rw [if_pos hg]
      by_cases h11 : s = 11
      · rw [if_pos h11]
        have dq : d + 0 = d := rfl
        have hsp := hs.pop (Or.inl h11)
        have hdd : dd + 1 ≤ 10 := by have := hsp.2.2.1; omega
        have nd : nI (10 - dd) - 1 = nI (10 - (dd + 1)) := by rw [show 10 - dd = 10 - (dd + 1) + 1 by omega]; exact nI_pred _
        refine k_aload f128_0 rfl ?_
        refine k_gI (w := nI (S.length + 1)) f128_1 hS.o51 rfl e21 ?_
        refine k_if_le f128_4 (fun h_ => absurd h_ (nI_nle (by omega) (by omega))) (fun _ => ?_)
        refine k_aload f128_7 rfl ?_
        refine k_getr (q := 59) f128_8 hS.o51 rfl hR.r51_20 ?_
        refine k_aload f128_11 rfl ?_
        refine k_gI (w := nI (S.length + 1)) f128_12 hS.o51 rfl e21 ?_
        refine k_iconst (v := 1) f128_15 rfl ?_
        refine k_isub f128_16 ?_
        rw [nI_pred S.length]
        refine k_ia (k := S.length) (w := nI s) f128_17 hS.a59 rfl (by omega) (by decide) e59 ?_
        refine e_s (as := [.int (nI s)]) (rest := []) f128_18 rfl rfl rfl (s_strg h4) ?_
        refine k_iload f128_21 rfl ?_
        refine k_ic_lt f128_22 (fun h_ => absurd h_ (nI_nlt hg (by omega))) (fun _ => ?_)
        refine k_aload f128_25 rfl ?_
        refine k_dup f128_26 ?_
        refine k_gI (w := nI (S.length + 1)) f128_27 hS.o51 rfl e21 ?_
        refine k_iconst (v := 1) f128_30 rfl ?_
        refine k_isub f128_31 ?_
        rw [nI_pred S.length]
        refine k_putI f128_32 hS.o51 rfl ?_
        refine k_aload f128_35 rfl ?_
        refine k_aload f128_36 rfl ?_
        refine k_getr (q := 59) f128_37 hS.o51 rfl hR.r51_20 ?_
        refine k_aload f128_40 rfl ?_
        refine k_gI (w := nI S.length) f128_41 hS.o51 rfl (z_u_same _ _ _ _) ?_
        refine k_ia (k := S.length) (w := nI s) f128_44 hS.a59 rfl (by omega) (by decide) (Eq.trans (z_u_p _ _ _ _ (by decide)) e59) ?_
        refine k_iconst (v := 0) f128_45 rfl ?_
        refine k_callv (as := [.int (0), .int (nI s)]) (rest := []) f128_46 hS.o51 rfl rfl rfl rfl (q_puts (it := (s, 0)) rfl rfl hR hS (hr.put (q := 51) (j := 21) (v := nI S.length) (by decide)) ht (by omega)) ?_
        rintro _ _ ⟨rfl, I1, rfl, hf1, hs1, hr1, ha1⟩
        have k21 : I1 51 21 = nI S.length := (hs1 51 21 (by decide) (by decide)).trans (z_u_same _ _ _ _)
        have k59 : I1 59 S.length = nI s := (hs1 59 _ (by decide) (by decide)).trans ((z_u_p _ _ _ _ (by decide)).trans e59)
        have k18 : I1 51 18 = nI (10 - dd) := (hs1 51 18 (by decide) (by decide)).trans ((z_u_k _ _ _ (by decide)).trans e18)
        have ha := ha1.l (I := I) (fun i => z_u_p _ _ _ _ (by decide))
        have ft : FT t I I1 := (FT.rfl.put (by omega)).trans hf1.ft
        have fs : FS I I1 := fun p k a c e => (hs1 p k a c).trans (z_u_no _ _ (fun z => e ⟨z.1, Or.inr z.2⟩))
        refine k_aload f128_49 rfl ?_
        refine k_getr (q := 59) f128_50 hS.o51 rfl hR.r51_20 ?_
        refine k_aload f128_53 rfl ?_
        refine k_gI (w := nI S.length) f128_54 hS.o51 rfl k21 ?_
        refine k_ia (k := S.length) (w := nI s) f128_57 hS.a59 rfl (by omega) (by decide) k59 ?_
        refine k_iconst (v := 11) f128_58 rfl ?_
        refine k_ic_ne f128_60 (fun h_ => absurd ((by rw [h11]; rfl)) h_) (fun _ => ?_)
        refine k_aload f128_63 rfl ?_
        refine k_dup f128_64 ?_
        refine k_gI (w := nI (10 - dd)) f128_65 hS.o51 rfl k18 ?_
        refine k_iconst (v := 1) f128_68 rfl ?_
        refine k_isub f128_69 ?_
        rw [nd]
        refine k_putI f128_70 hS.o51 rfl ?_
        refine k_goto f128_73 ?_
        refine zOk.imp (ih (L + 1) (dd + 1) (z_u I1 51 18 (nI (10 - (dd + 1)))) (by omega) (hr1.put (by decide)) (hsp.keep ((z_u_k _ _ _ (by decide)).trans (k21.trans ((z_u_k _ _ _ (by decide)).trans (z_u_same _ _ _ _)).symm)) ((z_u_same _ _ _ _).trans (z_u_same _ _ _ _).symm) (fun i => (z_u_p _ _ _ _ (by decide)).trans ((hs1 59 i (by decide) (by decide)).trans ((z_u_p _ _ _ _ (by decide)).trans ((z_u_p _ _ _ _ (by decide)).trans (z_u_p _ _ _ _ (by decide))).symm))))) ?_
        rintro v _ ⟨rfl, I', rfl, g1, g2, g3, g4, g5⟩
        refine ⟨rfl, I', rfl, (ft.put (by omega)).trans g1, (show FS I _ from fun p k a c e => (z_u_no _ _ (fun z => e ⟨z.1, Or.inl z.2⟩)).trans (fs p k a c e)).trans g2, ?_, g4, ?_⟩
        · show RT I' t m (L + ((s, 0) :: (stQ k S (dd + 1)).2.2).length)
          rw [List.length_cons, show L + ((stQ k S (dd + 1)).2.2.length + 1) = L + 1 + (stQ k S (dd + 1)).2.2.length by omega]
          exact g3
        · exact DA.app (o1 := [(s, 0)]) (ha.r (fun i => z_u_p _ _ _ _ (by decide))) g5
      · rw [if_neg h11]
        have n91 : ¬ s = 91 := fun z => by rw [z] at hg; exact absurd (Nat.le_trans hk0 hg) (by decide)
        have hsp := hs.pop0 (fun z => z.elim h11 n91)
        refine k_aload f128_0 rfl ?_
        refine k_gI (w := nI (S.length + 1)) f128_1 hS.o51 rfl e21 ?_
        refine k_if_le f128_4 (fun h_ => absurd h_ (nI_nle (by omega) (by omega))) (fun _ => ?_)
        refine k_aload f128_7 rfl ?_
        refine k_getr (q := 59) f128_8 hS.o51 rfl hR.r51_20 ?_
        refine k_aload f128_11 rfl ?_
        refine k_gI (w := nI (S.length + 1)) f128_12 hS.o51 rfl e21 ?_
        refine k_iconst (v := 1) f128_15 rfl ?_
        refine k_isub f128_16 ?_
        rw [nI_pred S.length]
        refine k_ia (k := S.length) (w := nI s) f128_17 hS.a59 rfl (by omega) (by decide) e59 ?_
        refine e_s (as := [.int (nI s)]) (rest := []) f128_18 rfl rfl rfl (s_strg h4) ?_
        refine k_iload f128_21 rfl ?_
        refine k_ic_lt f128_22 (fun h_ => absurd h_ (nI_nlt hg (by omega))) (fun _ => ?_)
        refine k_aload f128_25 rfl ?_
        refine k_dup f128_26 ?_
        refine k_gI (w := nI (S.length + 1)) f128_27 hS.o51 rfl e21 ?_
        refine k_iconst (v := 1) f128_30 rfl ?_
        refine k_isub f128_31 ?_
        rw [nI_pred S.length]
        refine k_putI f128_32 hS.o51 rfl ?_
        refine k_aload f128_35 rfl ?_
        refine k_aload f128_36 rfl ?_
        refine k_getr (q := 59) f128_37 hS.o51 rfl hR.r51_20 ?_
        refine k_aload f128_40 rfl ?_
        refine k_gI (w := nI S.length) f128_41 hS.o51 rfl (z_u_same _ _ _ _) ?_
        refine k_ia (k := S.length) (w := nI s) f128_44 hS.a59 rfl (by omega) (by decide) (Eq.trans (z_u_p _ _ _ _ (by decide)) e59) ?_
        refine k_iconst (v := 0) f128_45 rfl ?_
        refine k_callv (as := [.int (0), .int (nI s)]) (rest := []) f128_46 hS.o51 rfl rfl rfl rfl (q_puts (it := (s, 0)) rfl rfl hR hS (hr.put (q := 51) (j := 21) (v := nI S.length) (by decide)) ht (by omega)) ?_
        rintro _ _ ⟨rfl, I1, rfl, hf1, hs1, hr1, ha1⟩
        have k21 : I1 51 21 = nI S.length := (hs1 51 21 (by decide) (by decide)).trans (z_u_same _ _ _ _)
        have k59 : I1 59 S.length = nI s := (hs1 59 _ (by decide) (by decide)).trans ((z_u_p _ _ _ _ (by decide)).trans e59)
        have k18 : I1 51 18 = nI (10 - dd) := (hs1 51 18 (by decide) (by decide)).trans ((z_u_k _ _ _ (by decide)).trans e18)
        have ha := ha1.l (I := I) (fun i => z_u_p _ _ _ _ (by decide))
        have ft : FT t I I1 := (FT.rfl.put (by omega)).trans hf1.ft
        have fs : FS I I1 := fun p k a c e => (hs1 p k a c).trans (z_u_no _ _ (fun z => e ⟨z.1, Or.inr z.2⟩))
        refine k_aload f128_49 rfl ?_
        refine k_getr (q := 59) f128_50 hS.o51 rfl hR.r51_20 ?_
        refine k_aload f128_53 rfl ?_
        refine k_gI (w := nI S.length) f128_54 hS.o51 rfl k21 ?_
        refine k_ia (k := S.length) (w := nI s) f128_57 hS.a59 rfl (by omega) (by decide) k59 ?_
        refine k_iconst (v := 11) f128_58 rfl ?_
        refine k_ic_ne f128_60 (fun _ => ?_) (fun h_ => absurd ((fun z => h11 ((nI_eq (b := 11) (by omega) (by omega)).mp z))) h_)
        refine zOk.imp (ih (L + 1) dd I1 (by omega) hr1 (hsp.keep (k21.trans (z_u_same _ _ _ _).symm) (k18.trans ((z_u_k _ _ _ (by decide)).trans e18).symm) (fun i => (hs1 59 i (by decide) (by decide))))) ?_
        rintro v _ ⟨rfl, I', rfl, g1, g2, g3, g4, g5⟩
        refine ⟨rfl, I', rfl, ft.trans g1, fs.trans g2, ?_, g4, ?_⟩
        · show RT I' t m (L + ((s, 0) :: (stQ k S dd).2.2).length)
          rw [List.length_cons, show L + ((stQ k S dd).2.2.length + 1) = L + 1 + (stQ k S dd).2.2.length by omega]
          exact g3
        · exact DA.app (o1 := [(s, 0)]) ha g5
    · rw [if_neg hg]
      refine k_aload f128_0 rfl ?_
      refine k_gI (w := nI (S.length + 1)) f128_1 hS.o51 rfl e21 ?_
      refine k_if_le f128_4 (fun h_ => absurd h_ (nI_nle (by omega) (by omega))) (fun _ => ?_)
      refine k_aload f128_7 rfl ?_
      refine k_getr (q := 59) f128_8 hS.o51 rfl hR.r51_20 ?_
      refine k_aload f128_11 rfl ?_
      refine k_gI (w := nI (S.length + 1)) f128_12 hS.o51 rfl e21 ?_
      refine k_iconst (v := 1) f128_15 rfl ?_
      refine k_isub f128_16 ?_
      rw [nI_pred S.length]
      refine k_ia (k := S.length) (w := nI s) f128_17 hS.a59 rfl (by omega) (by decide) e59 ?_
      refine e_s (as := [.int (nI s)]) (rest := []) f128_18 rfl rfl rfl (s_strg h4) ?_
      refine k_iload f128_21 rfl ?_
      refine k_ic_lt f128_22 (fun _ => ?_) (fun h_ => absurd (nI_lt (by omega) (by omega)) h_)
      exact k_vret f128_76 ⟨rfl, _, rfl, FT.rfl, FS.rfl, hr, hs, DA.nil (fun _ => rfl)⟩
theorem lp_isIn {x : Nat × (Nat → Int32)} {d : Nat} {I : Nat → Nat → Int32} {J : Nat → Nat → Int64} {R : Nat → Nat → Option Nat} {G : zG} {S : List Nat} {dd : Nat} (hR : Rs R) (hS : Sh G) (hs : SK I S dd) (h4 : S.length ≤ 400) : ∀ (f i : Nat), i + f = S.length → (∀ j, j < i → ¬ I 59 j = 91) → zOk x d 134 2 [.ref 51, .int (nI i)] [] (I, J, R, G) (fun v m => v = some (.int (bI (91 ∈ S))) ∧ m = (I, J, R, G)) := by
  have hm := SA.mem S hs.2.2.2.1 hs.2.2.2.2
  have e21 := hs.1
  intro f
  induction f with
  | zero =>
    intro i hi hj
    refine k_iload f134_2 rfl ?_
    refine k_aload f134_3 rfl ?_
    refine k_gI (w := nI S.length) f134_4 hS.o51 rfl e21 ?_
    refine k_ic_ge f134_7 (fun _ => ?_) (fun h_ => absurd (nI_le (by omega) (by omega)) h_)
    refine k_iconst (v := 0) f134_29 rfl ?_
    exact k_iret f134_30 (by decide) ⟨bI_f fun h => by obtain ⟨j, h1, h2⟩ := hm.mp h; exact hj j (by omega) h2, rfl⟩
  | succ f ih =>
    intro i hi hj
    by_cases h9 : I 59 i = 91
    · refine k_iload f134_2 rfl ?_
      refine k_aload f134_3 rfl ?_
      refine k_gI (w := nI S.length) f134_4 hS.o51 rfl e21 ?_
      refine k_ic_ge f134_7 (fun h_ => absurd h_ (nI_ge (by omega) (by omega))) (fun _ => ?_)
      refine k_aload f134_10 rfl ?_
      refine k_getr (q := 59) f134_11 hS.o51 rfl hR.r51_20 ?_
      refine k_iload f134_14 rfl ?_
      refine k_ia (k := i) (w := I 59 i) f134_15 hS.a59 rfl (by omega) (by decide) rfl ?_
      refine k_iconst (v := 91) f134_16 rfl ?_
      refine k_ic_ne f134_18 (fun h_ => absurd (h9) h_) (fun _ => ?_)
      refine k_iconst (v := 1) f134_21 rfl ?_
      exact k_iret f134_22 (by decide) ⟨bI_t (hm.mpr ⟨i, by omega, h9⟩), rfl⟩
    · refine k_iload f134_2 rfl ?_
      refine k_aload f134_3 rfl ?_
      refine k_gI (w := nI S.length) f134_4 hS.o51 rfl e21 ?_
      refine k_ic_ge f134_7 (fun h_ => absurd h_ (nI_ge (by omega) (by omega))) (fun _ => ?_)
      refine k_aload f134_10 rfl ?_
      refine k_getr (q := 59) f134_11 hS.o51 rfl hR.r51_20 ?_
      refine k_iload f134_14 rfl ?_
      refine k_ia (k := i) (w := I 59 i) f134_15 hS.a59 rfl (by omega) (by decide) rfl ?_
      refine k_iconst (v := 91) f134_16 rfl ?_
      refine k_ic_ne f134_18 (fun _ => ?_) (fun h_ => absurd (h9) h_)
      refine k_iinc (w := nI (i + 1)) (L' := [.ref 51, .int (nI (i + 1))]) f134_23 rfl (nI_1 i) rfl rfl ?_
      refine k_goto f134_26 ?_
      exact ih (i + 1) (by omega) (fun j hj1 => by by_cases e : j = i; exact e ▸ h9; exact hj j (by omega))
theorem s_isIn {x : Nat × (Nat → Int32)} {d : Nat} {I : Nat → Nat → Int32} {J : Nat → Nat → Int64} {R : Nat → Nat → Option Nat} {G : zG} {S : List Nat} {dd : Nat} (hR : Rs R) (hS : Sh G) (hs : SK I S dd) (h4 : S.length ≤ 400) : zRn x d 134 [.ref 51] (I, J, R, G) (some (.int (bI (91 ∈ S)))) (I, J, R, G) := by
  show zOk x d 134 0 [.ref 51, zU] [] _ _
  refine k_iconst (v := 0) f134_0 rfl ?_
  refine k_istore (L' := [.ref 51, .int (0)]) f134_1 rfl rfl ?_
  exact lp_isIn hR hS hs h4 S.length 0 (by omega) (fun j hj => absurd hj (Nat.not_lt_zero _))
