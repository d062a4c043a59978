/-! THE FEWEST payments over all meetings. -/
theorem fw_0 {a b : Nat} {z : (Nat → Nat) × Nat} : fwS 0 0 a b z = z := by
  unfold fwS
  simp
theorem fwL_0 {w1 w2 : Nat → Nat} {s : Nat → Int32} : ∀ {l : List Nat} {z : (Nat → Nat) × Nat}, (∀ j, j ∈ l → w1 j = 0 ∧ w2 j = 0) → fwL w1 w2 s l z = z := by
  intro l
  induction l with
  | nil => intro z _; rfl
  | cons j l ih =>
    intro z h
    obtain ⟨a, b⟩ := h j List.mem_cons_self
    rw [fwL, a, b, fw_0]
    exact ih fun k hk => h k (List.mem_cons_of_mem j hk)
theorem elP_z {s : Nat → Int32} {fr : Int32} {j : Nat} (e : ¬ elP s fr 0 j = true) : s (56 + 3 * j) < fr := Classical.byContradiction fun q => e (elP_1 q (by simp))
theorem se_fw {ba : (Nat → Int64) → Bool} {s : Nat → Int32} {n m : Nat} {nu wo sp fr : Int32} {h : Nat} (hg : fr - sp ≤ s 7) (hm : MD s m) (hne : ∀ j, j < m → mA s j ≠ mB s j) (hsp : Rg sp 30000) (h7 : Rg (s 7) 1000) : ∀ (l : List Nat) (K : Nat) (z : Nat × (Nat → Nat) × Int32 × Nat) (y : (Nat → Nat) × Nat), (∀ j, j ∈ l → j < m) → l.Pairwise (fun a b => s (56 + 3 * a) ≤ s (56 + 3 * b)) → ZI h K z → FI K z → PRz z y → K + l.length < 1000 →
    (fwL (fun j => wyV ba s n nu wo sp fr h (mA s j) (mB s j) (s (56 + 3 * j))) (fun j => wyV ba s n nu wo sp fr h (mB s j) (mA s j) (s (56 + 3 * j))) s l y).2 = far (seL ba s n nu wo sp h (l.filter (elP s fr 0)) z).2.2.2 ∧ FI (K + l.length) (seL ba s n nu wo sp h (l.filter (elP s fr 0)) z) := by
  intro l
  induction l with
  | nil => intro K z y _ _ _ hf hp _; exact ⟨hp.2, hf⟩
  | cons j l ih =>
    intro K z y hl hp hz hf hpr hK
    have hjm := hl j List.mem_cons_self
    have hl2 : ∀ k, k ∈ l → k < m := fun k hk => hl k (List.mem_cons_of_mem _ hk)
    have hp1 := (List.pairwise_cons.mp hp).1
    have hp2 := (List.pairwise_cons.mp hp).2
    have hK2 : K + (l.length + 1) < 1000 := hK
    have up : ∀ {K' : Nat} {w : Nat × (Nat → Nat) × Int32 × Nat}, FI K' w → K' ≤ K + (j :: l).length → FI (K + (j :: l).length) w := fun k q => k.elim Or.inl fun r => Or.inr (by omega)
    obtain ⟨rd, la, lb⟩ := hm j hjm
    rw [fwL]
    by_cases e : elP s fr 0 j = true
    · have e1 : ¬ s (56 + 3 * j) < fr := fun q => elP_0 (Or.inl q) e
      rw [List.filter_cons_of_pos e]
      by_cases gd : s (56 + 3 * j) - sp ≤ s 7
      · have q1 : ∀ a b, z.1.testBit a = true → wyV ba s n nu wo sp fr h a b (s (56 + 3 * j)) = sv ba s n nu wo sp h a b (s (56 + 3 * j)) := by
          intro a b ra
          unfold wyV stV
          rw [if_pos ⟨hg, e1, gd⟩, if_pos (hz.2.2.2 a ra)]
        rw [show seL ba s n nu wo sp h (j :: l.filter (elP s fr 0)) z = seL ba s n nu wo sp h (l.filter (elP s fr 0)) (seS ba s n nu wo sp h j z) from if_pos gd]
        have z1 := go_zi (v := sv ba s n nu wo sp h (mA s j) (mB s j) (s (56 + 3 * j))) (b := mB s j) (pd := z.2.1 (mA s j)) (th := s (56 + 3 * j)) (hz.le (Nat.le_succ K)) (hz.2.2.1 _ la) (by omega) lb sv_1 sv_le
        have z2 := go_zi (v := sv ba s n nu wo sp h (mB s j) (mA s j) (s (56 + 3 * j))) (b := mA s j) (pd := z.2.1 (mB s j)) (th := s (56 + 3 * j)) z1 (hz.2.2.1 _ lb) (by omega) la sv_1 sv_le
        obtain ⟨p1, p2⟩ := se_pr (v1 := sv ba s n nu wo sp h (mA s j) (mB s j) (s (56 + 3 * j))) (v2 := sv ba s n nu wo sp h (mB s j) (mA s j) (s (56 + 3 * j))) (th := s (56 + 3 * j)) hz hf hpr (by omega) la lb (hne j hjm) (q1 _ _) (q1 _ _)
        obtain ⟨r1, r2⟩ := ih (K + 1) (seS ba s n nu wo sp h j z) _ hl2 hp2 z2 p2 p1 (by omega)
        exact ⟨r1, up r2 (by show K + 1 + l.length ≤ K + (l.length + 1); omega)⟩
      · rw [show seL ba s n nu wo sp h (j :: l.filter (elP s fr 0)) z = z from if_neg gd]
        have w0 : ∀ k, k ∈ j :: l → ∀ a b, wyV ba s n nu wo sp fr h a b (s (56 + 3 * k)) = 0 := by
          intro k hk a b
          unfold wyV
          refine if_neg fun q => ?_
          rcases List.mem_cons.mp hk with e | e
          · subst e; exact gd q.2.2
          · exact good_mono rd (hm k (hl2 k e)).1 hsp h7 (hp1 k e) gd q.2.2
        rw [w0 j List.mem_cons_self, w0 j List.mem_cons_self, fw_0, fwL_0 (fun k hk => ⟨w0 k (List.mem_cons_of_mem _ hk) _ _, w0 k (List.mem_cons_of_mem _ hk) _ _⟩)]
        exact ⟨hpr.2, up hf (by omega)⟩
    · rw [List.filter_cons_of_neg e]
      have w0 : ∀ a b, wyV ba s n nu wo sp fr h a b (s (56 + 3 * j)) = 0 := fun a b => if_neg fun q => q.2.1 (elP_z e)
      rw [w0, w0, fw_0]
      obtain ⟨r1, r2⟩ := ih K z y hl2 hp2 hz hf hpr (by omega)
      exact ⟨r1, up r2 (by show K + l.length ≤ K + (l.length + 1); omega)⟩
theorem se_f0 {ba : (Nat → Int64) → Bool} {s : Nat → Int32} {n : Nat} {nu wo sp : Int32} {h : Nat} : ∀ {l : List Nat} {z : Nat × (Nat → Nat) × Int32 × Nat}, z.2.2.2 = 0 → (seL ba s n nu wo sp h l z).2.2.2 = 0 := by
  intro l
  induction l with
  | nil => intro z h; exact h
  | cons j l ih =>
    intro z hd
    have g : ∀ {v b pd : Nat} {th : Int32} {z : Nat × (Nat → Nat) × Int32 × Nat}, z.2.2.2 = 0 → (goS v b th pd z).2.2.2 = 0 := by
      intro v b pd th z h
      rw [go_fp, h]
      split
      · split
        · rfl
        · rw [if_pos (by omega)]
      · rfl
    unfold seL
    split
    · exact ih (g (g hd))
    · exact hd
/-- the fewest, as the class tells them -/
def FW (ba : (Nat → Int64) → Bool) (s : Nat → Int32) (n m : Nat) (nu wo sp fr : Int32) (p h : Nat) : Nat := (fwL (fun j => wyV ba s n nu wo sp fr h (mA s j) (mB s j) (s (56 + 3 * j))) (fun j => wyV ba s n nu wo sp fr h (mB s j) (mA s j) (s (56 + 3 * j))) s (ordL (fun i => s (56 + 3 * i)) m).reverse (fun q => if q = p then 0 else 1000, 1000)).2
theorem SE_FW {ba : (Nat → Int64) → Bool} {s : Nat → Int32} {n m : Nat} {nu wo sp fr fe : Int32} {p h : Nat} (hm : MD s m) (hne : ∀ j, j < m → mA s j ≠ mB s j) (hm24 : m ≤ 24) (hsp : Rg sp 30000) (h7 : Rg (s 7) 1000) (hp : p < 10) (hhp : h.testBit p = true) :
    (hoB ba s n nu wo sp fr fe p h = true → (SE ba s n m nu wo sp fr fe p h 0).2.2.2 = 0) ∧ (¬ hoB ba s n nu wo sp fr fe p h = true → FW ba s n m nu wo sp fr p h = far (SE ba s n m nu wo sp fr fe p h 0).2.2.2 ∧ ((SE ba s n m nu wo sp fr fe p h 0).2.2.2 = 1000000 ∨ (SE ba s n m nu wo sp fr fe p h 0).2.2.2 < 1000)) := by
  refine ⟨fun hb => ?_, fun hb => ?_⟩
  · unfold SE
    rw [if_pos (hoB_iff.mp hb).1, if_pos hb]
    exact se_f0 rfl
  · by_cases gd : fr - sp ≤ s 7
    · unfold SE FW
      rw [if_pos gd, if_neg hb, frL_eq, ← List.filter_reverse]
      have k := se_fw (ba := ba) (n := n) (nu := nu) (wo := wo) (h := h) gd hm hne hsp h7 (ordL (fun i => s (56 + 3 * i)) m).reverse 0 (se0 p) (fun q => if q = p then 0 else 1000, 1000) (fun j hj => ordL_mem (List.mem_reverse.mp hj)) (List.pairwise_reverse.mpr (ordL_srt m)) ⟨p_1024 hp, fun q hq => ?_, fun q hq => ?_, fun q hq => ?_⟩ (Or.inl rfl) ⟨fun q hq => ?_, rfl⟩ (by rw [List.length_reverse, ordL_len]; omega)
      · have hl : (ordL (fun i => s (56 + 3 * i)) m).reverse.length = m := by rw [List.length_reverse, ordL_len]
        rw [hl] at k
        exact ⟨k.1, k.2.elim Or.inl fun q => Or.inr (by omega)⟩
      · show pb0 p q = 1000000 ↔ ¬ (2 ^ p).testBit q = true
        rw [Nat.testBit_two_pow]
        unfold pb0
        by_cases e : q = p
        · subst e; simp
        · rw [if_neg e]; simp; omega
      · show pb0 p q = 1000000 ∨ pb0 p q ≤ 0
        unfold pb0
        split
        · exact Or.inr (Nat.le_refl _)
        · exact Or.inl rfl
      · have hq : (2 ^ p).testBit q = true := hq
        rw [Nat.testBit_two_pow] at hq
        have : p = q := by simpa using hq
        rw [← this]; exact hhp
      · show (if q = p then 0 else 1000) = far (pb0 p q)
        unfold pb0 far
        by_cases e : q = p
        · rw [if_pos e, if_pos e]; rfl
        · rw [if_neg e, if_neg e]; rfl
    · have w0 : ∀ a b th, wyV ba s n nu wo sp fr h a b th = 0 := fun a b th => if_neg fun k => gd k.1
      unfold SE FW
      rw [if_neg gd, fwL_0 (fun j _ => ⟨w0 _ _ _, w0 _ _ _⟩)]
      exact ⟨rfl, Or.inl rfl⟩
theorem lp_fill {x : Nat × (Nat → Int32)} {d : Nat} {J : Nat → Nat → Int64} {R : Nat → Nat → Option Nat} {G : zG} {I0 : Nat → Nat → Int32} {q N : Nat} {v : Int32} (hq : za G q 14 N) (hN : N < 2 ^ 31) : ∀ (f i : Nat) (I : Nat → Nat → Int32), i + f = N → (∀ k, k < i → I q k = v) → (∀ p k, p ≠ q → I p k = I0 p k) → zOk x d 212 5 [.ref q, .int (v), .int (nI i), .int (nI N)] [] (I, J, R, G) (fun w m => w = none ∧ ∃ I', m = (I', J, R, G) ∧ (∀ k, k < N → I' q k = v) ∧ ∀ p k, p ≠ q → I' p k = I0 p k) := by
  intro f
  induction f with
  | zero =>
    intro i I hi h1 h2
    have hi : i = N := by omega
    subst hi
    refine k_iload f212_5 rfl ?_
    refine k_iload f212_6 rfl ?_
    refine k_ic_ge f212_7 (fun _ => ?_) (fun h_ => absurd (Int32.le_refl _) h_)
    exact k_vret f212_20 ⟨rfl, I, rfl, h1, h2⟩
  | succ f ih =>
    intro i I hi h1 h2
    refine k_iload f212_5 rfl ?_
    refine k_iload f212_6 rfl ?_
    refine k_ic_ge f212_7 (fun h_ => absurd h_ (nI_ge (by omega) (by omega))) (fun _ => ?_)
    refine k_aload f212_10 rfl ?_
    refine k_iload f212_11 rfl ?_
    refine k_iload f212_12 rfl ?_
    refine k_is (k := i) f212_13 hq rfl (by omega) (by omega) ?_
    refine k_iinc (w := nI (i + 1)) (L' := [.ref q, .int (v), .int (nI (i + 1)), .int (nI N)]) f212_14 rfl (nI_1 i) rfl rfl ?_
    refine k_goto f212_17 ?_
    refine ih (i + 1) _ (by omega) (fun k hk => ?_) (fun p k hp => (z_u_p _ _ _ _ hp).trans (h2 p k hp))
    by_cases e : k = i
    · subst e; exact z_u_same _ _ _ _
    · rw [z_u_k _ _ _ e]; exact h1 k (by omega)
theorem q_fill {x : Nat × (Nat → Int32)} {d : Nat} {I : Nat → Nat → Int32} {J : Nat → Nat → Int64} {R : Nat → Nat → Option Nat} {G : zG} {q N : Nat} {v : Int32} (hq : za G q 14 N) (hN : N < 2 ^ 31) : zOk x d 212 0 [.ref q, .int v, zU, zU] [] (I, J, R, G) (fun w m => w = none ∧ ∃ I', m = (I', J, R, G) ∧ (∀ k, k < N → I' q k = v) ∧ ∀ p k, p ≠ q → I' p k = I p k) := by
  refine k_iconst (v := 0) f212_0 rfl ?_
  refine k_istore (L' := [.ref q, .int (v), .int (0), zU]) f212_1 rfl rfl ?_
  refine k_aload f212_2 rfl ?_
  refine k_alen (v := nI N) f212_3 hq rfl rfl ?_
  refine k_istore (L' := [.ref q, .int (v), .int (0), .int (nI N)]) f212_4 rfl rfl ?_
  exact lp_fill hq hN N 0 I (by omega) (fun k hk => absurd hk (Nat.not_lt_zero _)) (fun _ _ _ => rfl)
