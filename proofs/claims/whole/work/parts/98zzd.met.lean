/-! MET: striking out, in the class. -/
section
variable {x : Nat × (Nat → Int32)} {d Y pc np tg : Nat} {L S : List Value} {I : Nat → Nat → Int32} {J : Nat → Nat → Int64} {R : Nat → Nat → Option Nat} {G : zG} {Q : Option Value → zM → Prop}
theorem k_zs {p n k : Nat} {i w : Int32} (hf : z_fetch Y pc = some (.bastore, np, tg)) (hp : za G p 16 n) (hk : nI k = i) (hb : k < n) (hn : n < 2 ^ 31) (hv : vp_nar .boolean w = w) (kk : zOk x d Y np L S (z_u I p k w, J, R, G) Q) : zOk x d Y pc L (.int w :: .int i :: .ref p :: S) (I, J, R, G) Q := by
  subst hk
  exact k_zast hf hp (by unfold vp_in; exact nI_in hb hn) (nI_clamp (by omega)) hv kk
end
def gnB (md k : Nat) : Bool := decide (k < 2 ^ md → nI (2 ^ md - 1) &&& (nI k ^^^ (-1)) = nI ((2 ^ md - 1) ^^^ k))
theorem gn_all : (List.range 9).all (fun md => (List.range 256).all (fun k => gnB md k)) = true := by decide +kernel
theorem gn_eq {md k : Nat} (hm : md < 9) (hk : k < 2 ^ md) : nI (2 ^ md - 1) &&& (nI k ^^^ (-1)) = nI ((2 ^ md - 1) ^^^ k) := by
  have h1 := List.all_eq_true.mp gn_all md (List.mem_range.mpr hm)
  have h2 := List.all_eq_true.mp h1 k (List.mem_range.mpr (Nat.lt_of_lt_of_le hk (Nat.le_trans (Nat.pow_le_pow_right (by omega) (show md ≤ 8 by omega)) (by decide))))
  exact of_decide_eq_true h2 hk
theorem gn_lt {md k : Nat} (hm : md < 9) (hk : k < 2 ^ md) : (2 ^ md - 1) ^^^ k < 2 ^ 31 := by
  have : (2 ^ md - 1) ^^^ k < 2 ^ md := Nat.xor_lt_two_pow (by have := Nat.one_le_two_pow (n := md); omega) hk
  have : 2 ^ md ≤ 2 ^ 8 := Nat.pow_le_pow_right (by omega) (by omega)
  omega
def sk (b : Nat → Nat → Int32) (s : Nat → Int32) (md c : Nat) (h : Bool) (k : Nat) : Bool := if h = true then decide (¬ (FDk b s c ((2 ^ md - 1) ^^^ k)).1 = -2) else decide ((FDk b s c ((2 ^ md - 1) ^^^ k)).1 = -2)
theorem LD.keep2 {ba : (Nat → Int64) → Bool} {I I' : Nat → Nat → Int32} {R : Nat → Nat → Option Nat} {G : zG} {pl q : Nat} {s : Nat → Int32} {n m : Nat} {bo : Option Nat} {f nu wo sp fr fe : Int32} {p h : Nat} (w : LD ba I R G pl q s n m bo f nu wo sp fr fe p h) (h8 : cl (s 1) ≤ 8) (hq : q = 38 ∨ (19 ≤ q ∧ q ≤ 26)) (hi : ∀ p k, ¬ (46 ≤ p ∧ p ≤ 50) → ¬ (p = 43 ∧ k = 9) → I' p k = I p k) : LD ba I' R G pl q s n m bo f nu wo sp fr fe p h := by
  obtain ⟨a, b, c, d⟩ := w
  refine ⟨⟨a.1.keep h8 Gk.rfl (fun p k _ hp => hi p k (by have := a.1.2.2.1.1; omega) (by have := a.1.2.2.1.1; omega)) (fun _ _ _ _ => rfl), a.2.1.kr fun p k hp => hi p k (by omega) (by omega), ?_, ?_, ?_, ?_, ?_, ?_⟩, fun k hk => ?_, ?_, d⟩
  · rw [hi _ _ (by omega) (by omega)]; exact a.2.2.1
  · rw [hi _ _ (by omega) (by omega)]; exact a.2.2.2.1
  · rw [hi _ _ (by omega) (by omega)]; exact a.2.2.2.2.1
  · rw [hi _ _ (by omega) (by omega)]; exact a.2.2.2.2.2.1
  · rw [hi _ _ (by omega) (by omega)]; exact a.2.2.2.2.2.2.1
  · rw [hi _ _ (by omega) (by omega)]; exact a.2.2.2.2.2.2.2
  · rw [hi _ _ (by omega) (by omega), hi 45 _ (by omega) (by omega)]; exact b k hk
  · rw [hi _ _ (by omega) (by omega)]; exact c
theorem sk_st {ps sk : Nat → Bool} {I : Nat → Int32} {i T : Nat} (h : ∀ k, k < T → I k = bI ((if k < i then (ps k && sk k) else ps k) = true)) {I' : Nat → Int32} (h1 : ∀ k, k ≠ i → I' k = I k) (h2 : I' i = bI ((ps i && sk i) = true)) : ∀ k, k < T → I' k = bI ((if k < i + 1 then (ps k && sk k) else ps k) = true) := by
  intro k hk
  by_cases e : k = i
  · subst e
    rw [if_pos (Nat.lt_succ_self k)]
    exact h2
  · rw [h1 k e, h k hk]
    by_cases q : k < i
    · rw [if_pos q, if_pos (by omega)]
    · rw [if_neg q, if_neg (by omega)]
theorem lp_strike1 {x : Nat × (Nat → Int32)} {d : Nat} {R : Nat → Nat → Option Nat} {G : zG} {I0 : Nat → Nat → Int32} {J : Nat → Nat → Int64} {b : Nat → Nat → Int32} {pl c rn md : Nat} {s : Nat → Int32} {bo : Option Nat} {ps : Nat → Bool} (hR : Rs R) (hS : Sh G) (hO : SOk s rn) (hc : c < cl (s 1)) (hm : md < 9) : ∀ (f i : Nat) (I : Nat → Nat → Int32), i + f = 2 ^ md → (LDc b I R G pl s bo c ∧ (∀ k, k < 2 ^ md → I 48 k = bI ((if k < i then (ps k && sk b s md c true k) else ps k) = true)) ∧ (∀ p k, ¬ (p = 43 ∧ k = 9) → p ≠ 48 → I p k = I0 p k)) → zOk x (d + 2) 108 2 [.ref 0, .int (nI (2 ^ md - 1)), .int (1), .int (nI i)] [] (I, J, R, G) (fun v mm => v = none ∧ ∃ I', mm = (I', J, R, G) ∧ LDc b I' R G pl s bo c ∧ (∀ k, k < 2 ^ md → I' 48 k = bI ((ps k && sk b s md c true k) = true)) ∧ (∀ p k, ¬ (p = 43 ∧ k = 9) → p ≠ 48 → I' p k = I0 p k)) := by
  intro f
  induction f with
  | zero =>
    intro i I hi hz
    obtain ⟨hl1, hp1, hfr⟩ := hz
    have hT : 2 ^ md ≤ 256 := Nat.pow_le_pow_right (by omega) (show md ≤ 8 by omega)
    have hT1 := Nat.one_le_two_pow (n := md)
    have h8 : cl (s 1) ≤ 8 := by have := hO.2.1.2; omega
    refine k_iload f108_2 rfl ?_
    refine k_iload f108_3 rfl ?_
    refine k_ic_gt f108_4 (fun _ => ?_) (fun h_ => absurd (nI_lt (by omega) (by omega)) h_)
    exact k_vret f108_55 ⟨rfl, I, rfl, hl1, fun k hk => by have := hp1 k hk; rw [if_pos (by omega)] at this; exact this, hfr⟩
  | succ f ih =>
    intro i I hi hz
    obtain ⟨hl1, hp1, hfr⟩ := hz
    have hT : 2 ^ md ≤ 256 := Nat.pow_le_pow_right (by omega) (show md ≤ 8 by omega)
    have hT1 := Nat.one_le_two_pow (n := md)
    have h8 : cl (s 1) ≤ 8 := by have := hO.2.1.2; omega
    have hin : i < 2 ^ md := by omega
    have ei : I 48 i = bI (ps i = true) := by have := hp1 i hin; rw [if_neg (Nat.lt_irrefl i)] at this; exact this
    by_cases hpi : ps i = true
    · by_cases hd : (FDk b s c ((2 ^ md - 1) ^^^ i)).1 = -2
      · refine k_iload f108_2 rfl ?_
        refine k_iload f108_3 rfl ?_
        refine k_ic_gt f108_4 (fun h_ => absurd h_ (nI_nlt (by omega) (by omega))) (fun _ => ?_)
        refine k_aload f108_7 rfl ?_
        refine k_getr (q := 48) f108_8 hS.o0 rfl hR.r0_12 ?_
        refine k_iload f108_11 rfl ?_
        refine k_za (k := i) (w := 1) f108_12 hS.a48 rfl (by omega) (by decide) (ei.trans (bI_v1 hpi)) ?_
        refine k_if_eq f108_13 (fun h_ => absurd h_ (by decide)) (fun _ => ?_)
        refine k_aload f108_16 rfl ?_
        refine k_getr (q := 43) f108_17 hS.o0 rfl hR.r0_11 ?_
        refine k_iload f108_20 rfl ?_
        refine k_iload f108_21 rfl ?_
        refine k_iconst (v := (-1)) f108_22 rfl ?_
        refine k_ixor f108_23 ?_
        refine k_iand f108_24 ?_
        rw [gn_eq hm hin]
        refine k_callv (as := [.int (nI ((2 ^ md - 1) ^^^ i))]) (rest := []) f108_25 hS.o43 rfl rfl rfl rfl (q_firstC (g := (2 ^ md - 1) ^^^ i) hR hS hO hc (gn_lt hm hin) hl1) ?_
        rintro _ _ ⟨rfl, I1, rfl, h9, hf1⟩
        have hl2 : LDc b I1 R G pl s bo c := LD.keep hl1 h8 (Or.inr (by omega)) fun p k _ h => hf1 p k h
        have hp2 : ∀ k, I1 48 k = I 48 k := fun k => hf1 48 k (by omega)
        have hfr2 : ∀ p k, ¬ (p = 43 ∧ k = 9) → p ≠ 48 → I1 p k = I0 p k := fun p k h1 h2 => (hf1 p k h1).trans (hfr p k h1 h2)
        refine k_iconst (v := (-2)) f108_28 rfl ?_
        refine k_ic_eq f108_30 (fun _ => ?_) (fun h_ => absurd (hd) h_)
        refine k_iconst (v := 0) f108_37 rfl ?_
        refine k_iload f108_38 rfl ?_
        refine k_ic_eq f108_39 (fun h_ => absurd h_ (by decide)) (fun _ => ?_)
        refine k_aload f108_42 rfl ?_
        refine k_getr (q := 48) f108_43 hS.o0 rfl hR.r0_12 ?_
        refine k_iload f108_46 rfl ?_
        refine k_iconst (v := 0) f108_47 rfl ?_
        refine k_zs (k := i) f108_48 hS.a48 rfl (by omega) (by decide) (by decide) ?_
        refine k_iinc (w := nI (i + 1)) (L' := [.ref 0, .int (nI (2 ^ md - 1)), .int (1), .int (nI (i + 1))]) f108_49 rfl (nI_1 i) rfl rfl ?_
        refine k_goto f108_52 ?_
        exact ih (i + 1) (z_u I1 48 i 0) (by omega) ⟨LD.keep2 hl2 h8 (Or.inr (by omega)) fun p k h1 _ => z_u_p _ _ _ _ (by omega), sk_st (I := I 48) hp1 (fun k h => (z_u_k _ _ _ h).trans (hp2 k)) (by rw [z_u_same, bI_v0 (by simp [sk, hd])]), fun p k h1 h2 => (z_u_p _ _ _ _ h2).trans (hfr2 p k h1 h2)⟩
      · refine k_iload f108_2 rfl ?_
        refine k_iload f108_3 rfl ?_
        refine k_ic_gt f108_4 (fun h_ => absurd h_ (nI_nlt (by omega) (by omega))) (fun _ => ?_)
        refine k_aload f108_7 rfl ?_
        refine k_getr (q := 48) f108_8 hS.o0 rfl hR.r0_12 ?_
        refine k_iload f108_11 rfl ?_
        refine k_za (k := i) (w := 1) f108_12 hS.a48 rfl (by omega) (by decide) (ei.trans (bI_v1 hpi)) ?_
        refine k_if_eq f108_13 (fun h_ => absurd h_ (by decide)) (fun _ => ?_)
        refine k_aload f108_16 rfl ?_
        refine k_getr (q := 43) f108_17 hS.o0 rfl hR.r0_11 ?_
        refine k_iload f108_20 rfl ?_
        refine k_iload f108_21 rfl ?_
        refine k_iconst (v := (-1)) f108_22 rfl ?_
        refine k_ixor f108_23 ?_
        refine k_iand f108_24 ?_
        rw [gn_eq hm hin]
        refine k_callv (as := [.int (nI ((2 ^ md - 1) ^^^ i))]) (rest := []) f108_25 hS.o43 rfl rfl rfl rfl (q_firstC (g := (2 ^ md - 1) ^^^ i) hR hS hO hc (gn_lt hm hin) hl1) ?_
        rintro _ _ ⟨rfl, I1, rfl, h9, hf1⟩
        have hl2 : LDc b I1 R G pl s bo c := LD.keep hl1 h8 (Or.inr (by omega)) fun p k _ h => hf1 p k h
        have hp2 : ∀ k, I1 48 k = I 48 k := fun k => hf1 48 k (by omega)
        have hfr2 : ∀ p k, ¬ (p = 43 ∧ k = 9) → p ≠ 48 → I1 p k = I0 p k := fun p k h1 h2 => (hf1 p k h1).trans (hfr p k h1 h2)
        refine k_iconst (v := (-2)) f108_28 rfl ?_
        refine k_ic_eq f108_30 (fun h_ => absurd h_ (hd)) (fun _ => ?_)
        refine k_iconst (v := 1) f108_33 rfl ?_
        refine k_goto f108_34 ?_
        refine k_iload f108_38 rfl ?_
        refine k_ic_eq f108_39 (fun _ => ?_) (fun h_ => absurd (by decide) h_)
        refine k_iinc (w := nI (i + 1)) (L' := [.ref 0, .int (nI (2 ^ md - 1)), .int (1), .int (nI (i + 1))]) f108_49 rfl (nI_1 i) rfl rfl ?_
        refine k_goto f108_52 ?_
        exact ih (i + 1) I1 (by omega) ⟨hl2, sk_st (I := I 48) hp1 (fun k _ => hp2 k) (by rw [hp2, ei, bI_v1 hpi, bI_v1 (by simp [hpi, sk, hd])]), hfr2⟩
    · refine k_iload f108_2 rfl ?_
      refine k_iload f108_3 rfl ?_
      refine k_ic_gt f108_4 (fun h_ => absurd h_ (nI_nlt (by omega) (by omega))) (fun _ => ?_)
      refine k_aload f108_7 rfl ?_
      refine k_getr (q := 48) f108_8 hS.o0 rfl hR.r0_12 ?_
      refine k_iload f108_11 rfl ?_
      refine k_za (k := i) (w := 0) f108_12 hS.a48 rfl (by omega) (by decide) (ei.trans (bI_v0 hpi)) ?_
      refine k_if_eq f108_13 (fun _ => ?_) (fun h_ => absurd (by decide) h_)
      refine k_iinc (w := nI (i + 1)) (L' := [.ref 0, .int (nI (2 ^ md - 1)), .int (1), .int (nI (i + 1))]) f108_49 rfl (nI_1 i) rfl rfl ?_
      refine k_goto f108_52 ?_
      exact ih (i + 1) I (by omega) ⟨hl1, sk_st (I := I 48) hp1 (fun _ _ => rfl) (by rw [ei, bI_v0 hpi, bI_v0 (by simp [hpi])]), hfr⟩
theorem lp_strike0 {x : Nat × (Nat → Int32)} {d : Nat} {R : Nat → Nat → Option Nat} {G : zG} {I0 : Nat → Nat → Int32} {J : Nat → Nat → Int64} {b : Nat → Nat → Int32} {pl c rn md : Nat} {s : Nat → Int32} {bo : Option Nat} {ps : Nat → Bool} (hR : Rs R) (hS : Sh G) (hO : SOk s rn) (hc : c < cl (s 1)) (hm : md < 9) : ∀ (f i : Nat) (I : Nat → Nat → Int32), i + f = 2 ^ md → (LDc b I R G pl s bo c ∧ (∀ k, k < 2 ^ md → I 48 k = bI ((if k < i then (ps k && sk b s md c false k) else ps k) = true)) ∧ (∀ p k, ¬ (p = 43 ∧ k = 9) → p ≠ 48 → I p k = I0 p k)) → zOk x (d + 2) 108 2 [.ref 0, .int (nI (2 ^ md - 1)), .int (0), .int (nI i)] [] (I, J, R, G) (fun v mm => v = none ∧ ∃ I', mm = (I', J, R, G) ∧ LDc b I' R G pl s bo c ∧ (∀ k, k < 2 ^ md → I' 48 k = bI ((ps k && sk b s md c false k) = true)) ∧ (∀ p k, ¬ (p = 43 ∧ k = 9) → p ≠ 48 → I' p k = I0 p k)) := by
  intro f
  induction f with
  | zero =>
    intro i I hi hz
    obtain ⟨hl1, hp1, hfr⟩ := hz
    have hT : 2 ^ md ≤ 256 := Nat.pow_le_pow_right (by omega) (show md ≤ 8 by omega)
    have hT1 := Nat.one_le_two_pow (n := md)
    have h8 : cl (s 1) ≤ 8 := by have := hO.2.1.2; omega
    refine k_iload f108_2 rfl ?_
    refine k_iload f108_3 rfl ?_
    refine k_ic_gt f108_4 (fun _ => ?_) (fun h_ => absurd (nI_lt (by omega) (by omega)) h_)
    exact k_vret f108_55 ⟨rfl, I, rfl, hl1, fun k hk => by have := hp1 k hk; rw [if_pos (by omega)] at this; exact this, hfr⟩
  | succ f ih =>
    intro i I hi hz
    obtain ⟨hl1, hp1, hfr⟩ := hz
    have hT : 2 ^ md ≤ 256 := Nat.pow_le_pow_right (by omega) (show md ≤ 8 by omega)
    have hT1 := Nat.one_le_two_pow (n := md)
    have h8 : cl (s 1) ≤ 8 := by have := hO.2.1.2; omega
    have hin : i < 2 ^ md := by omega
    have ei : I 48 i = bI (ps i = true) := by have := hp1 i hin; rw [if_neg (Nat.lt_irrefl i)] at this; exact this
    by_cases hpi : ps i = true
    · by_cases hd : (FDk b s c ((2 ^ md - 1) ^^^ i)).1 = -2
      · refine k_iload f108_2 rfl ?_
        refine k_iload f108_3 rfl ?_
        refine k_ic_gt f108_4 (fun h_ => absurd h_ (nI_nlt (by omega) (by omega))) (fun _ => ?_)
        refine k_aload f108_7 rfl ?_
        refine k_getr (q := 48) f108_8 hS.o0 rfl hR.r0_12 ?_
        refine k_iload f108_11 rfl ?_
        refine k_za (k := i) (w := 1) f108_12 hS.a48 rfl (by omega) (by decide) (ei.trans (bI_v1 hpi)) ?_
        refine k_if_eq f108_13 (fun h_ => absurd h_ (by decide)) (fun _ => ?_)
        refine k_aload f108_16 rfl ?_
        refine k_getr (q := 43) f108_17 hS.o0 rfl hR.r0_11 ?_
        refine k_iload f108_20 rfl ?_
        refine k_iload f108_21 rfl ?_
        refine k_iconst (v := (-1)) f108_22 rfl ?_
        refine k_ixor f108_23 ?_
        refine k_iand f108_24 ?_
        rw [gn_eq hm hin]
        refine k_callv (as := [.int (nI ((2 ^ md - 1) ^^^ i))]) (rest := []) f108_25 hS.o43 rfl rfl rfl rfl (q_firstC (g := (2 ^ md - 1) ^^^ i) hR hS hO hc (gn_lt hm hin) hl1) ?_
        rintro _ _ ⟨rfl, I1, rfl, h9, hf1⟩
        have hl2 : LDc b I1 R G pl s bo c := LD.keep hl1 h8 (Or.inr (by omega)) fun p k _ h => hf1 p k h
        have hp2 : ∀ k, I1 48 k = I 48 k := fun k => hf1 48 k (by omega)
        have hfr2 : ∀ p k, ¬ (p = 43 ∧ k = 9) → p ≠ 48 → I1 p k = I0 p k := fun p k h1 h2 => (hf1 p k h1).trans (hfr p k h1 h2)
        refine k_iconst (v := (-2)) f108_28 rfl ?_
        refine k_ic_eq f108_30 (fun _ => ?_) (fun h_ => absurd (hd) h_)
        refine k_iconst (v := 0) f108_37 rfl ?_
        refine k_iload f108_38 rfl ?_
        refine k_ic_eq f108_39 (fun _ => ?_) (fun h_ => absurd (by decide) h_)
        refine k_iinc (w := nI (i + 1)) (L' := [.ref 0, .int (nI (2 ^ md - 1)), .int (0), .int (nI (i + 1))]) f108_49 rfl (nI_1 i) rfl rfl ?_
        refine k_goto f108_52 ?_
        exact ih (i + 1) I1 (by omega) ⟨hl2, sk_st (I := I 48) hp1 (fun k _ => hp2 k) (by rw [hp2, ei, bI_v1 hpi, bI_v1 (by simp [hpi, sk, hd])]), hfr2⟩
      · refine k_iload f108_2 rfl ?_
        refine k_iload f108_3 rfl ?_
        refine k_ic_gt f108_4 (fun h_ => absurd h_ (nI_nlt (by omega) (by omega))) (fun _ => ?_)
        refine k_aload f108_7 rfl ?_
        refine k_getr (q := 48) f108_8 hS.o0 rfl hR.r0_12 ?_
        refine k_iload f108_11 rfl ?_
        refine k_za (k := i) (w := 1) f108_12 hS.a48 rfl (by omega) (by decide) (ei.trans (bI_v1 hpi)) ?_
        refine k_if_eq f108_13 (fun h_ => absurd h_ (by decide)) (fun _ => ?_)
        refine k_aload f108_16 rfl ?_
        refine k_getr (q := 43) f108_17 hS.o0 rfl hR.r0_11 ?_
        refine k_iload f108_20 rfl ?_
        refine k_iload f108_21 rfl ?_
        refine k_iconst (v := (-1)) f108_22 rfl ?_
        refine k_ixor f108_23 ?_
        refine k_iand f108_24 ?_
        rw [gn_eq hm hin]
        refine k_callv (as := [.int (nI ((2 ^ md - 1) ^^^ i))]) (rest := []) f108_25 hS.o43 rfl rfl rfl rfl (q_firstC (g := (2 ^ md - 1) ^^^ i) hR hS hO hc (gn_lt hm hin) hl1) ?_
        rintro _ _ ⟨rfl, I1, rfl, h9, hf1⟩
        have hl2 : LDc b I1 R G pl s bo c := LD.keep hl1 h8 (Or.inr (by omega)) fun p k _ h => hf1 p k h
        have hp2 : ∀ k, I1 48 k = I 48 k := fun k => hf1 48 k (by omega)
        have hfr2 : ∀ p k, ¬ (p = 43 ∧ k = 9) → p ≠ 48 → I1 p k = I0 p k := fun p k h1 h2 => (hf1 p k h1).trans (hfr p k h1 h2)
        refine k_iconst (v := (-2)) f108_28 rfl ?_
        refine k_ic_eq f108_30 (fun h_ => absurd h_ (hd)) (fun _ => ?_)
        refine k_iconst (v := 1) f108_33 rfl ?_
        refine k_goto f108_34 ?_
        refine k_iload f108_38 rfl ?_
        refine k_ic_eq f108_39 (fun h_ => absurd h_ (by decide)) (fun _ => ?_)
        refine k_aload f108_42 rfl ?_
        refine k_getr (q := 48) f108_43 hS.o0 rfl hR.r0_12 ?_
        refine k_iload f108_46 rfl ?_
        refine k_iconst (v := 0) f108_47 rfl ?_
        refine k_zs (k := i) f108_48 hS.a48 rfl (by omega) (by decide) (by decide) ?_
        refine k_iinc (w := nI (i + 1)) (L' := [.ref 0, .int (nI (2 ^ md - 1)), .int (0), .int (nI (i + 1))]) f108_49 rfl (nI_1 i) rfl rfl ?_
        refine k_goto f108_52 ?_
        exact ih (i + 1) (z_u I1 48 i 0) (by omega) ⟨LD.keep2 hl2 h8 (Or.inr (by omega)) fun p k h1 _ => z_u_p _ _ _ _ (by omega), sk_st (I := I 48) hp1 (fun k h => (z_u_k _ _ _ h).trans (hp2 k)) (by rw [z_u_same, bI_v0 (by simp [sk, hd])]), fun p k h1 h2 => (z_u_p _ _ _ _ h2).trans (hfr2 p k h1 h2)⟩
    · refine k_iload f108_2 rfl ?_
      refine k_iload f108_3 rfl ?_
      refine k_ic_gt f108_4 (fun h_ => absurd h_ (nI_nlt (by omega) (by omega))) (fun _ => ?_)
      refine k_aload f108_7 rfl ?_
      refine k_getr (q := 48) f108_8 hS.o0 rfl hR.r0_12 ?_
      refine k_iload f108_11 rfl ?_
      refine k_za (k := i) (w := 0) f108_12 hS.a48 rfl (by omega) (by decide) (ei.trans (bI_v0 hpi)) ?_
      refine k_if_eq f108_13 (fun _ => ?_) (fun h_ => absurd (by decide) h_)
      refine k_iinc (w := nI (i + 1)) (L' := [.ref 0, .int (nI (2 ^ md - 1)), .int (0), .int (nI (i + 1))]) f108_49 rfl (nI_1 i) rfl rfl ?_
      refine k_goto f108_52 ?_
      exact ih (i + 1) I (by omega) ⟨hl1, sk_st (I := I 48) hp1 (fun _ _ => rfl) (by rw [ei, bI_v0 hpi, bI_v0 (by simp [hpi])]), hfr⟩
