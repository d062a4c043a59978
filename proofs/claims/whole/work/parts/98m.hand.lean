/-! A DAY, as a function of rows; first: HANDING OVER, on both sides. -/
def foL {α : Type} (f : Nat → α → α) : Nat → Nat → α → α
  | _, 0, z => z
  | i, k + 1, z => foL f (i + 1) k (f i z)
theorem foL_s {α : Type} (f : Nat → α → α) (i k : Nat) (z : α) : foL f i (k + 1) z = foL f (i + 1) k (f i z) := rfl
def gvC (so : (Nat → Int64) → Nat → Bool) (n b p c : Nat) (z : (Nat → Int32) × Int32) : (Nat → Int32) × Int32 :=
  if b.testBit c = true ∧ z.1 3 - z.1 (8 + 6 * c + 2) ≤ z.1 7 ∧ ¬ so (wP z.1 n c p) 1 = true ∧ so (wP z.1 n c p) 0 = true then (payR z.1 c p, z.2 + 1) else z
def hmC (so : (Nat → Int64) → Nat → Bool) (n c : Nat) (z : (Nat → Int32) × Int32) : (Nat → Int32) × Int32 :=
  if ¬ z.1 (8 + 6 * c + 4) = 0 ∧ z.1 3 - z.1 (8 + 6 * c + 2) ≤ z.1 7 ∧ ¬ so (wH z.1 n c) 1 = true ∧ so (wH z.1 n c) 2 = true then (homR z.1 c, z.2) else z
def AF (s0 s : Nat → Int32) : Prop := ∀ i, (i < 8 ∧ i ≠ 4) ∨ 56 ≤ i → s i = s0 i
theorem AF.rfl {s : Nat → Int32} : AF s s := fun _ _ => Eq.refl _
theorem AF.pay {s0 s : Nat → Int32} {c p : Nat} (h : AF s0 s) (hc : c < 8) : AF s0 (payR s c p) := fun i hi => (payR_o s (by omega)).trans (h i hi)
theorem AF.hom {s0 s : Nat → Int32} {c : Nat} (h : AF s0 s) (hc : c < 8) : AF s0 (homR s c) := fun i hi => (homR_o s (by omega) (by omega)).trans (h i hi)
def CZ (I0 : Nat → Nat → Int32) (R : Nat → Nat → Option Nat) (G : zG) (st pl : Nat) (s0 : Nat → Int32) (z : (Nat → Int32) × Int32) (I : Nat → Nat → Int32) : Prop :=
  StR I R G st pl z.1 ∧ I 42 1 = z.2 ∧ SW z.1 ∧ AF s0 z.1 ∧ ∀ p k, ¬ (st ≤ p ∧ p < st + 10) → ¬ (p = 42 ∧ k = 1) → I p k = I0 p k
def RZ (I0 : Nat → Nat → Int32) (s0 : Nat → Int32) (z : (Nat → Int32) × Int32) (I : Nat → Nat → Int32) : Prop :=
  I 62 = z.1 ∧ I 51 26 = z.2 ∧ SW z.1 ∧ AF s0 z.1 ∧ ∀ p k, p ≠ 62 → ¬ (p = 51 ∧ (k = 23 ∨ k = 26)) → I p k = I0 p k
theorem CZ.kr {I0 I : Nat → Nat → Int32} {R : Nat → Nat → Option Nat} {G : zG} {st pl : Nat} {s0 : Nat → Int32} {z : (Nat → Int32) × Int32} (h : CZ I0 R G st pl s0 z I) (hs : st = 17 ∨ st = 27) : Kr I0 I := fun p k hp => h.2.2.2.2 p k (by omega) (by omega)
theorem RZ.kr {I0 I : Nat → Nat → Int32} {s0 : Nat → Int32} {z : (Nat → Int32) × Int32} (h : RZ I0 s0 z I) : Kr I0 I := fun p k hp => h.2.2.2.2 p k (by omega) (by omega)
theorem CZ.pay {I0 I : Nat → Nat → Int32} {R : Nat → Nat → Option Nat} {G : zG} {st pl c p : Nat} {s0 : Nat → Int32} {z : (Nat → Int32) × Int32} (h : CZ I0 R G st pl s0 z I) (hs : st = 17 ∨ st = 27) (hm : cl (s0 2) ≤ 25) (hc : c < cl (z.1 1)) (hp : p < cl (z.1 0)) :
    CZ I0 R G st pl s0 (payR z.1 c p, z.2 + 1) (z_u (z_u (z_u (z_u I (st + 2 + c) 4 (bI (¬ (cl (z.1 (8 + 6 * c + 3))).testBit p = true))) (st + 2 + c) 3 ((nI (cl (z.1 (8 + 6 * c + 3)))) ||| ((1) <<< ((nI p) &&& 31)))) (st + 2 + c) 1 (nI p)) 42 1 ((z.2) + (1))) := by
  obtain ⟨h1, h2, h3, h4, h5⟩ := h
  have b1 := h3.2.1.2
  have hpl := h1.2.2.1.1
  have hc8 : c < 8 := by omega
  have m25 : cl (z.1 2) ≤ 25 := by rw [h4 2 (by omega)]; exact hm
  refine ⟨?_, z_u_same _ _ _ _, h3.pay hc hp, h4.pay hc8, fun q k g1 g2 => ?_⟩
  · have g := h1.pay (p := p) (by omega) (by omega) m25 hc8
    have e1 : payR z.1 c p 1 = z.1 1 := payR_o _ (by omega)
    exact g.keep (by show cl (payR z.1 c p 1) ≤ 8; rw [e1]; omega) Gk.rfl (fun q k _ hq => z_u_p _ _ _ _ (by omega)) (fun _ _ _ _ => Eq.refl _)
  · rw [z_u_no _ _ g2, z_u_p _ _ _ _ (by omega), z_u_p _ _ _ _ (by omega), z_u_p _ _ _ _ (by omega)]
    exact h5 q k g1 g2
theorem CZ.hom {I0 I : Nat → Nat → Int32} {R : Nat → Nat → Option Nat} {G : zG} {st pl c : Nat} {s0 : Nat → Int32} {z : (Nat → Int32) × Int32} (h : CZ I0 R G st pl s0 z I) (hs : st = 17 ∨ st = 27) (hm : cl (s0 2) ≤ 25) (hc : c < cl (z.1 1)) :
    CZ I0 R G st pl s0 (homR z.1 c, z.2) (z_u (z_u (z_u (z_u (z_u I (st + 2 + c) 2 (z.1 3)) (st + 2 + c) 3 ((1) <<< ((z.1 (8 + 6 * c + 1)) &&& 31))) (st + 2 + c) 4 0) (st + 2 + c) 5 ((z.1 (8 + 6 * c + 5)) + (1))) st 2 ((z.1 4) + (1))) := by
  obtain ⟨h1, h2, h3, h4, h5⟩ := h
  have b1 := h3.2.1.2
  have hpl := h1.2.2.1.1
  have hc8 : c < 8 := by omega
  have m25 : cl (z.1 2) ≤ 25 := by rw [h4 2 (by omega)]; exact hm
  refine ⟨h1.hom (by omega) (by omega) m25 hc8, ?_, h3.hom hc, h4.hom hc8, fun q k g1 g2 => ?_⟩
  · rw [z_u_p _ _ _ _ (by omega), z_u_p _ _ _ _ (by omega), z_u_p _ _ _ _ (by omega), z_u_p _ _ _ _ (by omega), z_u_p _ _ _ _ (by omega)]
    exact h2
  · rw [z_u_p _ _ _ _ (by omega), z_u_p _ _ _ _ (by omega), z_u_p _ _ _ _ (by omega), z_u_p _ _ _ _ (by omega), z_u_p _ _ _ _ (by omega)]
    exact h5 q k g1 g2
theorem RZ.sc {I0 I I' : Nat → Nat → Int32} {s0 : Nat → Int32} {z : (Nat → Int32) × Int32} (h : RZ I0 s0 z I) (hi : ∀ p k, ¬ (p = 51 ∧ k = 23) → I' p k = I p k) : RZ I0 s0 z I' := by
  obtain ⟨h1, h2, h3, h4, h5⟩ := h
  exact ⟨(funext fun k => hi 62 k (by omega)).trans h1, (hi 51 26 (by omega)).trans h2, h3, h4, fun p k g1 g2 => (hi p k (by omega)).trans (h5 p k g1 g2)⟩
theorem RZ.pay {I0 I : Nat → Nat → Int32} {c p : Nat} {s0 : Nat → Int32} {z : (Nat → Int32) × Int32} (h : RZ I0 s0 z I) (hc : c < cl (z.1 1)) (hp : p < cl (z.1 0)) :
    RZ I0 s0 (payR z.1 c p, z.2 + 1) (z_u (z_u (z_u (z_u I 62 (8 + 6 * c + 1) (nI p)) 62 (8 + 6 * c + 4) (bI (¬ (cl (z.1 (8 + 6 * c + 3))).testBit p = true))) 62 (8 + 6 * c + 3) ((nI (cl (z.1 (8 + 6 * c + 3)))) ||| ((1) <<< ((nI p) &&& 31)))) 51 26 ((I 51 26) + (1))) := by
  obtain ⟨h1, h2, h3, h4, h5⟩ := h
  have b1 := h3.2.1.2
  refine ⟨?_, ?_, h3.pay hc hp, h4.pay (by omega), fun q k g1 g2 => ?_⟩
  · rw [z_u_row' _ _ _ (by omega), z_u_row, z_u_row, z_u_row, h1, payR_fu]
  · rw [z_u_same, h2]
  · rw [z_u_no _ _ (by omega), z_u_no _ _ (by omega), z_u_no _ _ (by omega), z_u_no _ _ (by omega)]
    exact h5 q k g1 g2
theorem RZ.hom {I0 I : Nat → Nat → Int32} {c : Nat} {s0 : Nat → Int32} {z : (Nat → Int32) × Int32} (h : RZ I0 s0 z I) (hc : c < cl (z.1 1)) :
    RZ I0 s0 (homR z.1 c, z.2) (z_u (z_u (z_u (z_u (z_u I 62 (8 + 6 * c + 2) (z.1 3)) 62 (8 + 6 * c + 3) ((1) <<< ((z.1 (8 + 6 * c + 1)) &&& 31))) 62 (8 + 6 * c + 4) 0) 62 (8 + 6 * c + 5) ((z.1 (8 + 6 * c + 5)) + (1))) 62 4 ((z.1 4) + (1))) := by
  obtain ⟨h1, h2, h3, h4, h5⟩ := h
  have b1 := h3.2.1.2
  refine ⟨?_, ?_, h3.hom hc, h4.hom (by omega), fun q k g1 g2 => ?_⟩
  · rw [z_u_row, z_u_row, z_u_row, z_u_row, z_u_row, h1, homR_fu]
  · rw [z_u_no _ _ (by omega), z_u_no _ _ (by omega), z_u_no _ _ (by omega), z_u_no _ _ (by omega), z_u_no _ _ (by omega)]
    exact h2
  · rw [z_u_no _ _ (by omega), z_u_no _ _ (by omega), z_u_no _ _ (by omega), z_u_no _ _ (by omega), z_u_no _ _ (by omega)]
    exact h5 q k g1 g2
theorem q_some {x : Nat × (Nat → Int32)} {d : Nat} {I : Nat → Nat → Int32} {J : Nat → Nat → Int64} {R : Nat → Nat → Option Nat} {G : zG} {I0 : Nat → Nat → Int32} {t r kd : Nat} {w : Nat → Int64} (hR : Rs R) (hS : Sh G) (hkr : Kr I0 I) (hru : RuR I0 R G t r) (hkd : kd < 3) (hw : ∀ j, 1 ≤ j → j ≤ 9 → J 40 j = w (j - 1)) : zOk x (d + 2) 22 0 [.ref r, .int (nI (kd + 1)), .ref 39, zU, zU] [] (I, J, R, G) (fun v mm => v = some (.int (bI (soB I0 t w kd = true))) ∧ ∃ J', mm = (I, J', R, G) ∧ ∀ p, p ≠ 41 → J' p = J p) := by
  have h := s_some (x := x) (d := d) (J := J) (w := w) hR hS (hru.kr hkr) hkd hw
  rw [soB_kr hkr] at h
  exact h
theorem q_isSo {x : Nat × (Nat → Int32)} {d : Nat} {I : Nat → Nat → Int32} {J : Nat → Nat → Int64} {R : Nat → Nat → Option Nat} {G : zG} {I0 : Nat → Nat → Int32} {t r kd : Nat} {w : Nat → Int64} (hR : Rs R) (hS : Sh G) (ht6 : t < 6) (hkr : Kr I0 I) (hru : RuR I0 R G t r) (hkd : kd < 3) (hw : ∀ j, j < 9 → J 61 j = w j) : zOk x (d + 2) 166 0 [.ref 51, .int (nI t), .int (nI kd), zU, zU] [] (I, J, R, G) (fun v mm => v = some (.int (bI (soB I0 t w kd = true))) ∧ ∃ I' J', mm = (I', J', R, G) ∧ (∀ p k, ¬ (p = 51 ∧ k = 23) → I' p k = I p k) ∧ ∀ p, p ≠ 60 → J' p = J p) := by
  have h := s_isSo (x := x) (d := d) (J := J) (w := w) hR hS ht6 (hru.kr hkr) hkd hw
  rw [soB_kr hkr] at h
  exact h
theorem baB_t (I : Nat → Nat → Int32) {t : Nat} (ht : t < 6) (w : Nat → Int64) : baB I (nI t) w = soB I t w 1 := by
  unfold baB
  rw [if_neg (fun e => by have : (nI t).toInt = -1 := by rw [e]; decide
                          rw [nI_toInt (by omega)] at this; omega), cl_nI (by omega)]
theorem lp_hand {x : Nat × (Nat → Int32)} {d : Nat} {R : Nat → Nat → Option Nat} {G : zG} {I0 : Nat → Nat → Int32} {s0 : Nat → Int32} {st pl t r n b p : Nat} (hR : Rs R) (hS : Sh G) (hst2 : st = 17 ∨ st = 27) (hru : RuR I0 R G t r) (hn : s0 1 = nI n) (hn8 : n ≤ 8) (hm : cl (s0 2) ≤ 25) (hb : b < 1024) (hp : p < cl (s0 0)) (hp10 : p < 10) : ∀ (f i : Nat) (z : (Nat → Int32) × Int32) (I : Nat → Nat → Int32) (J : Nat → Nat → Int64) (u : Value), i + f = n → CZ I0 R G st pl s0 z I → zOk x (d + 3) 17 3 [.ref 42, .ref st, .ref r, .int (nI b), .int (nI p), .int (nI i), u] [] (I, J, R, G) (fun v m => v = none ∧ ∃ I' J', m = (I', J', R, G) ∧ CZ I0 R G st pl s0 (foL (gvC (soB I0 t) n b p) i f z) I') := by
  intro f
  induction f with
  | zero =>
    intro i z I J u hi hz
    have hst : StR I R G st pl z.1 := hz.1
    have e1 : z.1 1 = nI n := (hz.2.2.2.1 1 (by omega)).trans hn
    have en : I pl 2 = nI n := hst.2.2.2.1.2.2.1.trans e1
    have c1 : cl (z.1 1) = n := by rw [e1, cl_nI (by omega)]
    have hkr : Kr I0 I := hz.kr hst2
    have hz4 : zo G r 4 := by obtain ⟨_, _, _, _, _, h, _⟩ := hru; exact h.2.1
    refine k_iload f17_3 rfl ?_
    refine k_aload f17_5 rfl ?_
    refine k_getr (q := pl) f17_6 hst.1.1 rfl hst.2.1 ?_
    refine k_gI (w := nI n) f17_9 hst.2.2.1.2.1 rfl en ?_
    refine k_ic_ge f17_12 (fun _ => ?_) (fun h_ => absurd (nI_le (by omega) (by omega)) h_)
    exact k_vret f17_101 ⟨rfl, I, J, rfl, hz⟩
  | succ f ih =>
    intro i z I J u hi hz
    have hst : StR I R G st pl z.1 := hz.1
    have e1 : z.1 1 = nI n := (hz.2.2.2.1 1 (by omega)).trans hn
    have en : I pl 2 = nI n := hst.2.2.2.1.2.2.1.trans e1
    have c1 : cl (z.1 1) = n := by rw [e1, cl_nI (by omega)]
    have hkr : Kr I0 I := hz.kr hst2
    have hz4 : zo G r 4 := by obtain ⟨_, _, _, _, _, h, _⟩ := hru; exact h.2.1
    have hin : i < n := by omega
    have hi8 : i < 8 := by omega
    have hcn : i < cl (z.1 1) := by omega
    have cn := hst.2.2.2.2.2.2.2.2 i hcn
    have cok := hz.2.2.1.2.2 i hcn
    by_cases hB : b.testBit i = true
    · by_cases hV : ¬ z.1 3 - z.1 (8 + 6 * i + 2) ≤ z.1 7
      · refine k_iload f17_3 rfl ?_
        refine k_aload f17_5 rfl ?_
        refine k_getr (q := pl) f17_6 hst.1.1 rfl hst.2.1 ?_
        refine k_gI (w := nI n) f17_9 hst.2.2.1.2.1 rfl en ?_
        refine k_ic_ge f17_12 (fun h_ => absurd h_ (nI_ge hin (by omega))) (fun _ => ?_)
        refine k_aload f17_15 rfl ?_
        refine k_getr (q := st + 1) f17_16 hst.1.1 rfl hst.1.2.1 ?_
        refine k_iload f17_19 rfl ?_
        refine k_aar (k := i) (q := st + 2 + i) f17_21 hst.1.2.2.1 rfl rfl (by omega) (by decide) (hst.1.2.2.2 i hi8).1 ?_
        refine k_astore (L' := [.ref 42, .ref st, .ref r, .int (nI b), .int (nI p), .int (nI i), .ref (st + 2 + i)]) f17_22 rfl rfl ?_
        refine k_iload f17_24 rfl ?_
        refine k_iload f17_25 rfl ?_
        refine e_s (as := [.int (nI i), .int (nI b)]) (rest := []) f17_27 rfl rfl rfl (s_has (b := b) (p := i) (by omega) (by omega)) ?_
        refine k_beq f17_30 (fun h_ => absurd (hB) h_) (fun _ => ?_)
        refine k_aload f17_33 rfl ?_
        refine k_aload f17_34 rfl ?_
        refine e_v (as := [.ref (st + 2 + i)]) (rest := []) f17_36 hst.1.1 rfl rfl rfl (s_isVoidC (c := i) hst cn (hst.1.2.2.2 i hi8).2) ?_
        refine k_bne f17_39 (fun _ => ?_) (fun h_ => absurd (hV) h_)
        refine k_iinc (w := nI (i + 1)) (L' := [.ref 42, .ref st, .ref r, .int (nI b), .int (nI p), .int (nI (i + 1)), .ref (st + 2 + i)]) f17_95 rfl (nI_1 i) rfl rfl ?_
        refine k_goto f17_98 ?_
        rw [foL_s, show gvC (soB I0 t) n b p i z = z from if_neg fun h => hV h.2.1]
        exact ih (i + 1) z I J _ (by omega) hz
      · by_cases h1 : soB I0 t (wP z.1 n i p) 1 = true
        · refine k_iload f17_3 rfl ?_
          refine k_aload f17_5 rfl ?_
          refine k_getr (q := pl) f17_6 hst.1.1 rfl hst.2.1 ?_
          refine k_gI (w := nI n) f17_9 hst.2.2.1.2.1 rfl en ?_
          refine k_ic_ge f17_12 (fun h_ => absurd h_ (nI_ge hin (by omega))) (fun _ => ?_)
          refine k_aload f17_15 rfl ?_
          refine k_getr (q := st + 1) f17_16 hst.1.1 rfl hst.1.2.1 ?_
          refine k_iload f17_19 rfl ?_
          refine k_aar (k := i) (q := st + 2 + i) f17_21 hst.1.2.2.1 rfl rfl (by omega) (by decide) (hst.1.2.2.2 i hi8).1 ?_
          refine k_astore (L' := [.ref 42, .ref st, .ref r, .int (nI b), .int (nI p), .int (nI i), .ref (st + 2 + i)]) f17_22 rfl rfl ?_
          refine k_iload f17_24 rfl ?_
          refine k_iload f17_25 rfl ?_
          refine e_s (as := [.int (nI i), .int (nI b)]) (rest := []) f17_27 rfl rfl rfl (s_has (b := b) (p := i) (by omega) (by omega)) ?_
          refine k_beq f17_30 (fun h_ => absurd (hB) h_) (fun _ => ?_)
          refine k_aload f17_33 rfl ?_
          refine k_aload f17_34 rfl ?_
          refine e_v (as := [.ref (st + 2 + i)]) (rest := []) f17_36 hst.1.1 rfl rfl rfl (s_isVoidC (c := i) hst cn (hst.1.2.2.2 i hi8).2) ?_
          refine k_bne f17_39 (fun h_ => absurd h_ (hV)) (fun _ => ?_)
          refine k_aload f17_42 rfl ?_
          refine k_getr (q := 39) f17_43 hS.o42 rfl hR.r42_0 ?_
          refine k_aload f17_46 rfl ?_
          refine k_iload f17_47 rfl ?_
          refine k_iload f17_49 rfl ?_
          refine k_callv (as := [.int (nI p), .int (nI i), .ref st]) (rest := []) f17_51 hS.o39 rfl rfl rfl rfl (q_pay (c := i) (p := p) hR hS hst e1 hn8 hin cok.2.1 hp10) ?_
          rintro _ _ ⟨rfl, J1, rfl, hJ1⟩
          refine k_aload f17_54 rfl ?_
          refine k_iconst (v := 2) f17_55 rfl ?_
          refine k_aload f17_56 rfl ?_
          refine k_getr (q := 39) f17_57 hS.o42 rfl hR.r42_0 ?_
          refine k_callv (as := [.ref 39, .int (2)]) (rest := []) f17_60 hz4 rfl rfl rfl rfl (q_some (kd := 1) (w := wP z.1 n i p) hR hS hkr hru (by decide) hJ1) ?_
          rintro _ _ ⟨rfl, J2, rfl, hJ2⟩
          refine k_bne f17_63 (fun _ => ?_) (fun h_ => absurd (h1) h_)
          refine k_iinc (w := nI (i + 1)) (L' := [.ref 42, .ref st, .ref r, .int (nI b), .int (nI p), .int (nI (i + 1)), .ref (st + 2 + i)]) f17_95 rfl (nI_1 i) rfl rfl ?_
          refine k_goto f17_98 ?_
          rw [foL_s, show gvC (soB I0 t) n b p i z = z from if_neg fun h => h.2.2.1 h1]
          exact ih (i + 1) z I J2 _ (by omega) hz
        · by_cases h0 : soB I0 t (wP z.1 n i p) 0 = true
          · refine k_iload f17_3 rfl ?_
            refine k_aload f17_5 rfl ?_
            refine k_getr (q := pl) f17_6 hst.1.1 rfl hst.2.1 ?_
            refine k_gI (w := nI n) f17_9 hst.2.2.1.2.1 rfl en ?_
            refine k_ic_ge f17_12 (fun h_ => absurd h_ (nI_ge hin (by omega))) (fun _ => ?_)
            refine k_aload f17_15 rfl ?_
            refine k_getr (q := st + 1) f17_16 hst.1.1 rfl hst.1.2.1 ?_
            refine k_iload f17_19 rfl ?_
            refine k_aar (k := i) (q := st + 2 + i) f17_21 hst.1.2.2.1 rfl rfl (by omega) (by decide) (hst.1.2.2.2 i hi8).1 ?_
            refine k_astore (L' := [.ref 42, .ref st, .ref r, .int (nI b), .int (nI p), .int (nI i), .ref (st + 2 + i)]) f17_22 rfl rfl ?_
            refine k_iload f17_24 rfl ?_
            refine k_iload f17_25 rfl ?_
            refine e_s (as := [.int (nI i), .int (nI b)]) (rest := []) f17_27 rfl rfl rfl (s_has (b := b) (p := i) (by omega) (by omega)) ?_
            refine k_beq f17_30 (fun h_ => absurd (hB) h_) (fun _ => ?_)
            refine k_aload f17_33 rfl ?_
            refine k_aload f17_34 rfl ?_
            refine e_v (as := [.ref (st + 2 + i)]) (rest := []) f17_36 hst.1.1 rfl rfl rfl (s_isVoidC (c := i) hst cn (hst.1.2.2.2 i hi8).2) ?_
            refine k_bne f17_39 (fun h_ => absurd h_ (hV)) (fun _ => ?_)
            refine k_aload f17_42 rfl ?_
            refine k_getr (q := 39) f17_43 hS.o42 rfl hR.r42_0 ?_
            refine k_aload f17_46 rfl ?_
            refine k_iload f17_47 rfl ?_
            refine k_iload f17_49 rfl ?_
            refine k_callv (as := [.int (nI p), .int (nI i), .ref st]) (rest := []) f17_51 hS.o39 rfl rfl rfl rfl (q_pay (c := i) (p := p) hR hS hst e1 hn8 hin cok.2.1 hp10) ?_
            rintro _ _ ⟨rfl, J1, rfl, hJ1⟩
            refine k_aload f17_54 rfl ?_
            refine k_iconst (v := 2) f17_55 rfl ?_
            refine k_aload f17_56 rfl ?_
            refine k_getr (q := 39) f17_57 hS.o42 rfl hR.r42_0 ?_
            refine k_callv (as := [.ref 39, .int (2)]) (rest := []) f17_60 hz4 rfl rfl rfl rfl (q_some (kd := 1) (w := wP z.1 n i p) hR hS hkr hru (by decide) hJ1) ?_
            rintro _ _ ⟨rfl, J2, rfl, hJ2⟩
            refine k_bne f17_63 (fun h_ => absurd h_ (h1)) (fun _ => ?_)
            refine k_aload f17_66 rfl ?_
            refine k_iconst (v := 1) f17_67 rfl ?_
            refine k_aload f17_68 rfl ?_
            refine k_getr (q := 39) f17_69 hS.o42 rfl hR.r42_0 ?_
            refine k_callv (as := [.ref 39, .int (1)]) (rest := []) f17_72 hz4 rfl rfl rfl rfl (q_some (kd := 0) (w := wP z.1 n i p) hR hS hkr hru (by decide) (fun j h1 h2 => (congrFun (hJ2 40 (by decide)) j).trans (hJ1 j h1 h2))) ?_
            rintro _ _ ⟨rfl, J3, rfl, hJ3⟩
            refine k_beq f17_75 (fun h_ => absurd (h0) h_) (fun _ => ?_)
            refine k_aload f17_78 rfl ?_
            refine k_iload f17_80 rfl ?_
            refine e_v (as := [.int (nI p)]) (rest := []) f17_82 (hst.1.2.2.2 i hi8).2 rfl rfl rfl (s_goTo (q := st + 2 + i) (h := cl (z.1 (8 + 6 * i + 3))) (p := p) (hst.1.2.2.2 i hi8).2 (cn.2.2.2.1.trans cok.2.1.1) cok.2.1.2 hp10) ?_
            refine k_aload f17_85 rfl ?_
            refine k_dup f17_86 ?_
            refine k_gI (w := z.2) f17_87 hS.o42 rfl (Eq.trans (z_u_p _ _ _ _ (by omega)) (Eq.trans (z_u_p _ _ _ _ (by omega)) (Eq.trans (z_u_p _ _ _ _ (by omega)) hz.2.1))) ?_
            refine k_iconst (v := 1) f17_90 rfl ?_
            refine k_iadd f17_91 ?_
            refine k_putI f17_92 hS.o42 rfl ?_
            refine k_iinc (w := nI (i + 1)) (L' := [.ref 42, .ref st, .ref r, .int (nI b), .int (nI p), .int (nI (i + 1)), .ref (st + 2 + i)]) f17_95 rfl (nI_1 i) rfl rfl ?_
            refine k_goto f17_98 ?_
            rw [foL_s, show gvC (soB I0 t) n b p i z = (payR z.1 i p, z.2 + 1) from if_pos ⟨hB, Classical.not_not.mp hV, h1, h0⟩]
            exact ih (i + 1) (payR z.1 i p, z.2 + 1) _ J3 _ (by omega) (hz.pay hst2 hm hcn (by rw [hz.2.2.2.1 0 (by omega)]; exact hp))
          · refine k_iload f17_3 rfl ?_
            refine k_aload f17_5 rfl ?_
            refine k_getr (q := pl) f17_6 hst.1.1 rfl hst.2.1 ?_
            refine k_gI (w := nI n) f17_9 hst.2.2.1.2.1 rfl en ?_
            refine k_ic_ge f17_12 (fun h_ => absurd h_ (nI_ge hin (by omega))) (fun _ => ?_)
            refine k_aload f17_15 rfl ?_
            refine k_getr (q := st + 1) f17_16 hst.1.1 rfl hst.1.2.1 ?_
            refine k_iload f17_19 rfl ?_
            refine k_aar (k := i) (q := st + 2 + i) f17_21 hst.1.2.2.1 rfl rfl (by omega) (by decide) (hst.1.2.2.2 i hi8).1 ?_
            refine k_astore (L' := [.ref 42, .ref st, .ref r, .int (nI b), .int (nI p), .int (nI i), .ref (st + 2 + i)]) f17_22 rfl rfl ?_
            refine k_iload f17_24 rfl ?_
            refine k_iload f17_25 rfl ?_
            refine e_s (as := [.int (nI i), .int (nI b)]) (rest := []) f17_27 rfl rfl rfl (s_has (b := b) (p := i) (by omega) (by omega)) ?_
            refine k_beq f17_30 (fun h_ => absurd (hB) h_) (fun _ => ?_)
            refine k_aload f17_33 rfl ?_
            refine k_aload f17_34 rfl ?_
            refine e_v (as := [.ref (st + 2 + i)]) (rest := []) f17_36 hst.1.1 rfl rfl rfl (s_isVoidC (c := i) hst cn (hst.1.2.2.2 i hi8).2) ?_
            refine k_bne f17_39 (fun h_ => absurd h_ (hV)) (fun _ => ?_)
            refine k_aload f17_42 rfl ?_
            refine k_getr (q := 39) f17_43 hS.o42 rfl hR.r42_0 ?_
            refine k_aload f17_46 rfl ?_
            refine k_iload f17_47 rfl ?_
            refine k_iload f17_49 rfl ?_
            refine k_callv (as := [.int (nI p), .int (nI i), .ref st]) (rest := []) f17_51 hS.o39 rfl rfl rfl rfl (q_pay (c := i) (p := p) hR hS hst e1 hn8 hin cok.2.1 hp10) ?_
            rintro _ _ ⟨rfl, J1, rfl, hJ1⟩
            refine k_aload f17_54 rfl ?_
            refine k_iconst (v := 2) f17_55 rfl ?_
            refine k_aload f17_56 rfl ?_
            refine k_getr (q := 39) f17_57 hS.o42 rfl hR.r42_0 ?_
            refine k_callv (as := [.ref 39, .int (2)]) (rest := []) f17_60 hz4 rfl rfl rfl rfl (q_some (kd := 1) (w := wP z.1 n i p) hR hS hkr hru (by decide) hJ1) ?_
            rintro _ _ ⟨rfl, J2, rfl, hJ2⟩
            refine k_bne f17_63 (fun h_ => absurd h_ (h1)) (fun _ => ?_)
            refine k_aload f17_66 rfl ?_
            refine k_iconst (v := 1) f17_67 rfl ?_
            refine k_aload f17_68 rfl ?_
            refine k_getr (q := 39) f17_69 hS.o42 rfl hR.r42_0 ?_
            refine k_callv (as := [.ref 39, .int (1)]) (rest := []) f17_72 hz4 rfl rfl rfl rfl (q_some (kd := 0) (w := wP z.1 n i p) hR hS hkr hru (by decide) (fun j h1 h2 => (congrFun (hJ2 40 (by decide)) j).trans (hJ1 j h1 h2))) ?_
            rintro _ _ ⟨rfl, J3, rfl, hJ3⟩
            refine k_beq f17_75 (fun _ => ?_) (fun h_ => (absurd h_ (h0)))
            refine k_iinc (w := nI (i + 1)) (L' := [.ref 42, .ref st, .ref r, .int (nI b), .int (nI p), .int (nI (i + 1)), .ref (st + 2 + i)]) f17_95 rfl (nI_1 i) rfl rfl ?_
            refine k_goto f17_98 ?_
            rw [foL_s, show gvC (soB I0 t) n b p i z = z from if_neg fun h => h0 h.2.2.2]
            exact ih (i + 1) z I J3 _ (by omega) hz
    · refine k_iload f17_3 rfl ?_
      refine k_aload f17_5 rfl ?_
      refine k_getr (q := pl) f17_6 hst.1.1 rfl hst.2.1 ?_
      refine k_gI (w := nI n) f17_9 hst.2.2.1.2.1 rfl en ?_
      refine k_ic_ge f17_12 (fun h_ => absurd h_ (nI_ge hin (by omega))) (fun _ => ?_)
      refine k_aload f17_15 rfl ?_
      refine k_getr (q := st + 1) f17_16 hst.1.1 rfl hst.1.2.1 ?_
      refine k_iload f17_19 rfl ?_
      refine k_aar (k := i) (q := st + 2 + i) f17_21 hst.1.2.2.1 rfl rfl (by omega) (by decide) (hst.1.2.2.2 i hi8).1 ?_
      refine k_astore (L' := [.ref 42, .ref st, .ref r, .int (nI b), .int (nI p), .int (nI i), .ref (st + 2 + i)]) f17_22 rfl rfl ?_
      refine k_iload f17_24 rfl ?_
      refine k_iload f17_25 rfl ?_
      refine e_s (as := [.int (nI i), .int (nI b)]) (rest := []) f17_27 rfl rfl rfl (s_has (b := b) (p := i) (by omega) (by omega)) ?_
      refine k_beq f17_30 (fun _ => ?_) (fun h_ => (absurd h_ (hB)))
      refine k_iinc (w := nI (i + 1)) (L' := [.ref 42, .ref st, .ref r, .int (nI b), .int (nI p), .int (nI (i + 1)), .ref (st + 2 + i)]) f17_95 rfl (nI_1 i) rfl rfl ?_
      refine k_goto f17_98 ?_
      rw [foL_s, show gvC (soB I0 t) n b p i z = z from if_neg fun h => hB h.1]
      exact ih (i + 1) z I J _ (by omega) hz
theorem q_hand {x : Nat × (Nat → Int32)} {d : Nat} {R : Nat → Nat → Option Nat} {G : zG} {I0 : Nat → Nat → Int32} {s0 : Nat → Int32} {I : Nat → Nat → Int32} {J : Nat → Nat → Int64} {z : (Nat → Int32) × Int32} {st pl t r n b p : Nat} (hR : Rs R) (hS : Sh G) (hst2 : st = 17 ∨ st = 27) (hru : RuR I0 R G t r) (hn : s0 1 = nI n) (hn8 : n ≤ 8) (hm : cl (s0 2) ≤ 25) (hb : b < 1024) (hp : p < cl (s0 0)) (hp10 : p < 10) (hz : CZ I0 R G st pl s0 z I) : zOk x (d + 3) 17 0 [.ref 42, .ref st, .ref r, .int (nI b), .int (nI p), zU, zU] [] (I, J, R, G) (fun v m => v = none ∧ ∃ I' J', m = (I', J', R, G) ∧ CZ I0 R G st pl s0 (foL (gvC (soB I0 t) n b p) 0 n z) I') := by
  refine k_iconst (v := 0) f17_0 rfl ?_
  refine k_istore (L' := [.ref 42, .ref st, .ref r, .int (nI b), .int (nI p), .int (0), zU]) f17_1 rfl rfl ?_
  exact lp_hand hR hS hst2 hru hn hn8 hm hb hp hp10 n 0 z I J _ (by omega) hz
