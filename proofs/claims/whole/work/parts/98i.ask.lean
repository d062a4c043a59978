/-! THE WORDS of a question, as both sides tell them. -/
def gW (s : Nat → Int32) (n : Nat) (nu wo ag : Int32) (h : Nat) (S : Prop) [Decidable S] (g tk dy : Int32) (j : Nat) : Int64 :=
  if j = 0 then nu.toInt64 else if j = 1 then wo.toInt64 else if j = 2 then ag.toInt64 else if j = 3 then (nI (popc h)).toInt64 else if j = 4 then (bI S).toInt64 else
  if j = 5 then (acc (fC s g) n).toInt64 else if j = 6 then g.toInt64 else if j = 7 then tk.toInt64 else dy.toInt64
def wP (s : Nat → Int32) (n c p : Nat) : Nat → Int64 := gW s n (nI c) (s (8 + 6 * c)) (s 3 - s (8 + 6 * c + 2)) (cl (s (8 + 6 * c + 3))) (¬ (cl (s (8 + 6 * c + 3))).testBit p = true) (s (8 + 6 * c + 1)) (nI p) (s 3)
def wH (s : Nat → Int32) (n c : Nat) : Nat → Int64 := gW s n (nI c) (s (8 + 6 * c)) (s 3 - s (8 + 6 * c + 2)) (cl (s (8 + 6 * c + 3))) (s (8 + 6 * c + 4) = 1) (s (8 + 6 * c + 1)) (s (8 + 6 * c + 1)) (s 3)
theorem q_words {x : Nat × (Nat → Int32)} {d : Nat} {I : Nat → Nat → Int32} {J : Nat → Nat → Int64} {R : Nat → Nat → Option Nat} {G : zG} {n h : Nat} {s : Nat → Int32} {nu wo ag g tk dy : Int32} {S : Prop} [Decidable S] (hR : Rs R) (hS : Sh G) (hs : I 62 = s) (hn : s 1 = nI n) (hn8 : n ≤ 8) (hh : h < 1024) : zOk x (d + 2) 165 0 [.ref 51, .int nu, .int wo, .int ag, .int (nI h), .int (bI S), .int g, .int tk, .int dy] [] (I, J, R, G) (fun v m => v = none ∧ ∃ J', m = (I, J', R, G) ∧ ∀ j, j < 9 → J' 61 j = gW s n nu wo ag h S g tk dy j) := by
  obtain ⟨k, k1, k2, k3⟩ := purse_eq (s := s) (p := g) n hn8
  have k9 : k < 1024 := Nat.lt_of_lt_of_le k1 (Nat.le_trans (Nat.pow_le_pow_right (by omega) hn8) (by decide))
  refine zOk.imp (s_words (d := d) (nu := nu) (wo := wo) (ag := ag) (g := g) (tk := tk) (dy := dy) (S := S) hR hS hs hn hn8 hh k9 k2) (fun v m hm => ?_)
  obtain ⟨rfl, rfl⟩ := hm
  refine ⟨rfl, _, rfl, fun j hj => ?_⟩
  have : j = 0 ∨ j = 1 ∨ j = 2 ∨ j = 3 ∨ j = 4 ∨ j = 5 ∨ j = 6 ∨ j = 7 ∨ j = 8 := by omega
  rcases this with rfl | rfl | rfl | rfl | rfl | rfl | rfl | rfl | rfl <;> simp [z_u, gW, k3]
theorem q_pay {x : Nat × (Nat → Int32)} {d : Nat} {I : Nat → Nat → Int32} {J : Nat → Nat → Int64} {R : Nat → Nat → Option Nat} {G : zG} {st pl n c p : Nat} {s : Nat → Int32} (hR : Rs R) (hS : Sh G) (hst : StR I R G st pl s) (hn : s 1 = nI n) (hn8 : n ≤ 8) (hc : c < n) (hh : Rg (s (8 + 6 * c + 3)) 1024) (hp : p < 10) : zOk x (d + 2) 1 0 [.ref 39, .ref st, .int (nI c), .int (nI p), zU] [] (I, J, R, G) (fun v m => v = none ∧ ∃ J', m = (I, J', R, G) ∧ ∀ j, 1 ≤ j → j ≤ 9 → J' 40 j = wP s n c p (j - 1)) := by
  have cn := hst.2.2.2.2.2.2.2.2 c (by rw [hn, cl_nI (by omega)]; exact hc)
  refine zOk.imp (s_aboutPaying (d := d) (c := c) (h := cl (s (8 + 6 * c + 3))) (p := p) hR hS hst hn hn8 (by omega) (hst.1.2.2.2 c (by omega)).2 hst.2.2.2.2.1 cn.1 cn.2.1 cn.2.2.1 (cn.2.2.2.1.trans hh.1) hh.2 hp) (fun v m hm => ?_)
  obtain ⟨rfl, rfl⟩ := hm
  refine ⟨rfl, _, rfl, fun j h1 h9 => ?_⟩
  have : j = 1 ∨ j = 2 ∨ j = 3 ∨ j = 4 ∨ j = 5 ∨ j = 6 ∨ j = 7 ∨ j = 8 ∨ j = 9 := by omega
  rcases this with rfl | rfl | rfl | rfl | rfl | rfl | rfl | rfl | rfl <;> simp [z_u, gW, wP]
theorem q_home {x : Nat × (Nat → Int32)} {d : Nat} {I : Nat → Nat → Int32} {J : Nat → Nat → Int64} {R : Nat → Nat → Option Nat} {G : zG} {st pl n c : Nat} {s : Nat → Int32} (hR : Rs R) (hS : Sh G) (hst : StR I R G st pl s) (hn : s 1 = nI n) (hn8 : n ≤ 8) (hc : c < n) (hh : Rg (s (8 + 6 * c + 3)) 1024) (hf : Rg (s (8 + 6 * c + 4)) 2) : zOk x (d + 2) 2 0 [.ref 39, .ref st, .int (nI c), zU] [] (I, J, R, G) (fun v m => v = none ∧ ∃ J', m = (I, J', R, G) ∧ ∀ j, 1 ≤ j → j ≤ 9 → J' 40 j = wH s n c (j - 1)) := by
  have cn := hst.2.2.2.2.2.2.2.2 c (by rw [hn, cl_nI (by omega)]; exact hc)
  have e4 : s (8 + 6 * c + 4) = bI (s (8 + 6 * c + 4) = 1) := by
    rcases rg_01 hf with e | e
    · rw [bI, if_neg (by rw [e]; decide), e]
    · rw [bI, if_pos e, e]
  refine zOk.imp (s_aboutHome (d := d) (c := c) (h := cl (s (8 + 6 * c + 3))) (S := s (8 + 6 * c + 4) = 1) hR hS hst hn hn8 (by omega) (hst.1.2.2.2 c (by omega)).2 hst.2.2.2.2.1 cn.1 cn.2.1 cn.2.2.1 (cn.2.2.2.1.trans hh.1) (cn.2.2.2.2.1.trans e4) hh.2) (fun v m hm => ?_)
  obtain ⟨rfl, rfl⟩ := hm
  refine ⟨rfl, _, rfl, fun j h1 h9 => ?_⟩
  have : j = 1 ∨ j = 2 ∨ j = 3 ∨ j = 4 ∨ j = 5 ∨ j = 6 ∨ j = 7 ∨ j = 8 ∨ j = 9 := by omega
  rcases this with rfl | rfl | rfl | rfl | rfl | rfl | rfl | rfl | rfl <;> simp [z_u, gW, wH]
theorem r_pay {x : Nat × (Nat → Int32)} {d : Nat} {I : Nat → Nat → Int32} {J : Nat → Nat → Int64} {R : Nat → Nat → Option Nat} {G : zG} {n c p : Nat} {s : Nat → Int32} (hR : Rs R) (hS : Sh G) (hs : I 62 = s) (hn : s 1 = nI n) (hn8 : n ≤ 8) (hc : c < n) (hh : Rg (s (8 + 6 * c + 3)) 1024) (hp : p < 10) : zOk x (d + 3) 168 0 [.ref 51, .int (nI c), .int (nI p)] [] (I, J, R, G) (fun v m => v = none ∧ ∃ J', m = (I, J', R, G) ∧ ∀ j, j < 9 → J' 61 j = wP s n c p j) := by
  subst hs
  obtain ⟨k, k1, k2, k3⟩ := purse_eq (s := I 62) (p := I 62 (8 + 6 * c + 1)) n hn8
  have k9 : k < 1024 := Nat.lt_of_lt_of_le k1 (Nat.le_trans (Nat.pow_le_pow_right (by omega) hn8) (by decide))
  refine zOk.imp (s_wordsToPay (d := d) (c := c) (p := p) (h := cl (I 62 (8 + 6 * c + 3))) hR hS rfl hn hn8 hh.2 k9 k2 (by omega) rfl rfl rfl rfl hh.1 hp) (fun v m hm => ?_)
  obtain ⟨rfl, rfl⟩ := hm
  refine ⟨rfl, _, rfl, fun j hj => ?_⟩
  have : j = 0 ∨ j = 1 ∨ j = 2 ∨ j = 3 ∨ j = 4 ∨ j = 5 ∨ j = 6 ∨ j = 7 ∨ j = 8 := by omega
  rcases this with rfl | rfl | rfl | rfl | rfl | rfl | rfl | rfl | rfl <;> simp [z_u, gW, wP, k3]
theorem r_home {x : Nat × (Nat → Int32)} {d : Nat} {I : Nat → Nat → Int32} {J : Nat → Nat → Int64} {R : Nat → Nat → Option Nat} {G : zG} {n c : Nat} {s : Nat → Int32} (hR : Rs R) (hS : Sh G) (hs : I 62 = s) (hn : s 1 = nI n) (hn8 : n ≤ 8) (hc : c < n) (hh : Rg (s (8 + 6 * c + 3)) 1024) : zOk x (d + 3) 169 0 [.ref 51, .int (nI c)] [] (I, J, R, G) (fun v m => v = none ∧ ∃ J', m = (I, J', R, G) ∧ ∀ j, j < 9 → J' 61 j = wH s n c j) := by
  subst hs
  obtain ⟨k, k1, k2, k3⟩ := purse_eq (s := I 62) (p := I 62 (8 + 6 * c + 1)) n hn8
  have k9 : k < 1024 := Nat.lt_of_lt_of_le k1 (Nat.le_trans (Nat.pow_le_pow_right (by omega) hn8) (by decide))
  refine zOk.imp (s_wordsForHome (d := d) (c := c) (h := cl (I 62 (8 + 6 * c + 3))) hR hS rfl hn hn8 hh.2 k9 k2 (by omega) rfl rfl rfl rfl hh.1 rfl) (fun v m hm => ?_)
  obtain ⟨rfl, rfl⟩ := hm
  refine ⟨rfl, _, rfl, fun j hj => ?_⟩
  have : j = 0 ∨ j = 1 ∨ j = 2 ∨ j = 3 ∨ j = 4 ∨ j = 5 ∨ j = 6 ∨ j = 7 ∨ j = 8 := by omega
  rcases this with rfl | rfl | rfl | rfl | rfl | rfl | rfl | rfl | rfl <;> simp [z_u, gW, wH, k3]
/-! BARRED by the RULE in force, if one is. -/
def baB (I : Nat → Nat → Int32) (f : Int32) (w : Nat → Int64) : Bool := if f = -1 then false else soB I (cl f) w 1
/-- the RULES up to rn, as both sides keep them -/
def RuA (I : Nat → Nat → Int32) (R : Nat → Nat → Option Nat) (G : zG) : Prop := Rg (I 0 4) 7 ∧ ∀ t, t < cl (I 0 4) → ∃ r, R 16 t = some r ∧ RuR I R G t r
theorem q_barred {x : Nat × (Nat → Int32)} {d : Nat} {I : Nat → Nat → Int32} {J : Nat → Nat → Int64} {R : Nat → Nat → Option Nat} {G : zG} {f : Int32} {w : Nat → Int64} (hR : Rs R) (hS : Sh G) (hA : RuA I R G) (hf : f = -1 ∨ Rg f (cl (I 0 4))) (hw : ∀ j, j < 9 → J 61 j = w j) : zOk x (d + 3) 167 0 [.ref 51, .int f] [] (I, J, R, G) (fun v mm => v = some (.int (bI (baB I f w = true))) ∧ ∃ I' J', mm = (I', J', R, G) ∧ (∀ p k, ¬ (p = 51 ∧ k = 23) → I' p k = I p k) ∧ ∀ p, p ≠ 60 → J' p = J p) := by
  rcases hf with rfl | hf
  · refine zOk.imp (s_isBarred0 (d := d + 3)) (fun v m hm => ?_)
    obtain ⟨rfl, rfl⟩ := hm
    exact ⟨by simp [baB, bI], I, J, rfl, fun _ _ _ => rfl, fun _ _ => rfl⟩
  · obtain ⟨r, r1, r2⟩ := hA.2 (cl f) hf.2
    have hne : ¬ f = -1 := fun e => by have := hf.1; rw [e] at this; exact absurd this (by decide)
    have ht6 : cl f < 6 := by have := hf.2; have := hA.1.2; omega
    rw [show f = nI (cl f) from hf.1]
    refine zOk.imp (s_isBarred1 (d := d) (t := cl f) (w := w) hR hS ht6 r2 hw) (fun v m hm => ?_)
    have e : baB I (nI (cl f)) w = soB I (cl f) w 1 := by rw [← hf.1, baB, if_neg hne]
    rw [e]
    exact hm
theorem q_barC {x : Nat × (Nat → Int32)} {d : Nat} {I : Nat → Nat → Int32} {J : Nat → Nat → Int64} {R : Nat → Nat → Option Nat} {G : zG} {f : Int32} {w : Nat → Int64} (hR : Rs R) (hS : Sh G) (hA : RuA I R G) (h3 : I 17 3 = f) (hf : f = -1 ∨ Rg f (cl (I 0 4))) (hw : ∀ j, 1 ≤ j → j ≤ 9 → J 40 j = w (j - 1)) : zOk x (d + 3) 104 0 [.ref 0, zU] [] (I, J, R, G) (fun v mm => v = some (.int (bI (baB I f w = true))) ∧ ∃ J', mm = (I, J', R, G) ∧ ∀ p, p ≠ 41 → J' p = J p) := by
  rcases hf with rfl | hf
  · refine k_aload f104_0 rfl ?_
    refine k_aload f104_1 rfl ?_
    refine k_getr (q := 17) f104_2 hS.o0 rfl hR.r0_5 ?_
    refine k_gI (w := (-1)) f104_5 hS.o17 rfl h3 ?_
    refine e_v (as := [.int ((-1))]) (rest := []) f104_8 hS.o0 rfl rfl rfl (s_ruleAt0 hS (fun q => q.1 (by decide))) ?_
    refine k_astoren (L' := [.ref 0, .null]) f104_11 rfl rfl ?_
    refine k_aloadn f104_12 rfl ?_
    refine k_nulln f104_13 ?_
    refine k_iconst (v := 0) f104_32 rfl ?_
    exact k_iret f104_33 (by decide) ⟨by simp [baB, bI], J, rfl, fun _ _ => rfl⟩
  · obtain ⟨r, r1, r2⟩ := hA.2 (cl f) hf.2
    have hz4 : zo G r 4 := by obtain ⟨_, _, _, _, _, h, _⟩ := r2; exact h.2.1
    have hne : ¬ f = -1 := fun e => by have := hf.1; rw [e] at this; exact absurd this (by decide)
    have ht6 : cl f < 6 := by have := hf.2; have := hA.1.2; omega
    have e : baB I f w = soB I (cl f) w 1 := by rw [baB, if_neg hne]
    rw [e]
    have h3 : I 17 3 = nI (cl f) := h3.trans hf.1
    have hlt : ¬ I 0 4 ≤ nI (cl f) := by
      rw [hA.1.1]
      exact nI_ge hf.2 (by have := hA.1.2; omega)
    refine k_aload f104_0 rfl ?_
    refine k_aload f104_1 rfl ?_
    refine k_getr (q := 17) f104_2 hS.o0 rfl hR.r0_5 ?_
    refine k_gI (w := nI (cl f)) f104_5 hS.o17 rfl h3 ?_
    refine e_v (as := [.int (nI (cl f))]) (rest := []) f104_8 hS.o0 rfl rfl rfl (s_ruleAt1 (t := cl f) hR hS ht6 hlt r1) ?_
    refine k_astore (L' := [.ref 0, .ref r]) f104_11 rfl rfl ?_
    refine k_aload f104_12 rfl ?_
    refine k_nullr f104_13 ?_
    refine k_aload f104_16 rfl ?_
    refine k_iconst (v := 2) f104_17 rfl ?_
    refine k_aload f104_18 rfl ?_
    refine k_getr (q := 39) f104_19 hS.o0 rfl hR.r0_9 ?_
    refine k_callv (as := [.ref 39, .int (2)]) (rest := []) f104_22 hz4 rfl rfl rfl rfl (s_some (kd := 1) (w := w) hR hS r2 (by decide) hw) ?_
    rintro _ _ ⟨rfl, J1, rfl, hJ1⟩
    refine k_beq f104_25 (fun g0 => ?_) (fun g0 => ?_)
    · refine k_iconst (v := 0) f104_32 rfl ?_
      exact k_iret f104_33 (by decide) ⟨bI_f g0, J1, rfl, hJ1⟩
    · refine k_iconst (v := 1) f104_28 rfl ?_
      refine k_goto f104_29 ?_
      exact k_iret f104_33 (by decide) ⟨bI_t g0, J1, rfl, hJ1⟩
