/-! STRANGERS: who could have the lost ones. -/
def CFh (I0 : Nat → Nat → Int32) (R0 : Nat → Nat → Option Nat) (I : Nat → Nat → Int32) (R : Nat → Nat → Option Nat) : Prop := (∀ p k, ¬ (43 ≤ p ∧ p ≤ 50) → I p k = I0 p k) ∧ ∀ p k, ¬ (p = 43 ∧ (k = 2 ∨ k = 3)) → R p k = R0 p k
theorem CFh.rfl {I0 : Nat → Nat → Int32} {R0 : Nat → Nat → Option Nat} : CFh I0 R0 I0 R0 := ⟨fun _ _ _ => Eq.refl _, fun _ _ _ => Eq.refl _⟩
theorem CFr.h {I0 I1 : Nat → Nat → Int32} {R0 R1 : Nat → Nat → Option Nat} (h : CFr I0 R0 I1 R1) : CFh I0 R0 I1 R1 := ⟨fun p k q => h.1 p k (by omega), h.2⟩
theorem CFh.trans {I0 I1 I2 : Nat → Nat → Int32} {R0 R1 R2 : Nat → Nat → Option Nat} (h : CFh I0 R0 I1 R1) (g : CFh I1 R1 I2 R2) : CFh I0 R0 I2 R2 := ⟨fun p k q => (g.1 p k q).trans (h.1 p k q), fun p k q => (g.2 p k q).trans (h.2 p k q)⟩
theorem CFh.kr {I0 I1 : Nat → Nat → Int32} {R0 R1 : Nat → Nat → Option Nat} (h : CFh I0 R0 I1 R1) : Kr I0 I1 := fun p k q => h.1 p k (by omega)
theorem CFh.rs {I0 I1 : Nat → Nat → Int32} {R0 R1 : Nat → Nat → Option Nat} {G : zG} (h : CFh I0 R0 I1 R1) (hS : Sh G) (hR : Rs R0) : Rs R1 := rs_keep hS hR (fun p k _ _ h2 => h.2 p k h2)
theorem CFh.st {I0 I1 : Nat → Nat → Int32} {R0 R1 : Nat → Nat → Option Nat} {G : zG} {pl : Nat} {s : Nat → Int32} (h : CFh I0 R0 I1 R1) (hs : StR I0 R0 G 17 pl s) (h8 : cl (s 1) ≤ 8) : StR I1 R1 G 17 pl s := by
  have hpl := hs.2.2.1.1
  exact hs.keep h8 Gk.rfl (fun p k _ hp => h.1 p k (by omega)) (fun p k _ hp => h.2 p k (by omega))
theorem CFh.ra {I0 I1 : Nat → Nat → Int32} {R0 R1 : Nat → Nat → Option Nat} {G : zG} (h : CFh I0 R0 I1 R1) (hA : RuA I0 R0 G) : RuA I1 R1 G := by
  have e := h.1 0 4 (by omega)
  refine ⟨by rw [e]; exact hA.1, fun t ht => ?_⟩
  rw [e] at ht
  obtain ⟨r, r1, r2⟩ := hA.2 t ht
  exact ⟨r, (h.2 16 t (by omega)).trans r1, (r2.kr h.kr).rr fun p k hp => h.2 p k (by omega)⟩
/-- the sets of those who could have a lost coin, in the coins' order -/
def rcL (b : Nat → Nat → Int32) (s : Nat → Int32) : Nat → List Nat
  | 0 => []
  | c + 1 => if s 3 - s (8 + 6 * c + 2) ≤ s 7 ∧ (FDk b s c 0).1 = -2 then rcL b s c ++ [(FDk b s c 0).2] else rcL b s c
theorem rcL_len {b : Nat → Nat → Int32} {s : Nat → Int32} : ∀ c, (rcL b s c).length ≤ c := by
  intro c
  induction c with
  | zero => exact Nat.le_refl _
  | succ c ih =>
    unfold rcL
    split
    · rw [List.length_append]; simp; exact ih
    · omega
/-- a row has a list's elements -/
def RwL (I : Nat → Nat → Int32) (q : Nat) (L : List Nat) : Prop := ∀ k, k < L.length → I q k = nI (L.getD k 0)
theorem RwL.put {I : Nat → Nat → Int32} {q v : Nat} {L : List Nat} (h : RwL I q L) : RwL (z_u I q L.length (nI v)) q (L ++ [v]) := by
  intro k hk
  have hl : (L ++ [v]).length = L.length + 1 := by simp
  rw [hl] at hk
  by_cases e : k = L.length
  · subst e; rw [z_u_same, gD_r (Nat.le_refl _), Nat.sub_self, gD_0]
  · rw [z_u_k _ _ _ e, gD_l (by omega)]; exact h k (by omega)
theorem lp_strC {x : Nat × (Nat → Int32)} {d : Nat} {G : zG} {I0 : Nat → Nat → Int32} {R0 : Nat → Nat → Option Nat} {s : Nat → Int32} {pl : Nat} {Q : Option Value → zM → Prop} (hR0 : Rs R0) (hS : Sh G) (hst0 : StR I0 R0 G 17 pl s) (hO : SOk s (cl (I0 0 4))) (hA0 : RuA I0 R0 G) (hk : ∀ I' J' R' u2 u3 u4, CFh I0 R0 I' R' → RwL I' 49 (rcL I0 s (cl (s 1))) → zOk x (d + 7) 87 65 [.ref 0, .int (nI (rcL I0 s (cl (s 1))).length), u2, u3, u4] [] (I', J', R', G) Q) : ∀ (f i : Nat) (I : Nat → Nat → Int32) (J : Nat → Nat → Int64) (R : Nat → Nat → Option Nat) (u3 u4 : Value), i + f = cl (s 1) → (CFh I0 R0 I R ∧ RwL I 49 (rcL I0 s i)) → zOk x (d + 7) 87 13 [.ref 0, .int (nI (rcL I0 s i).length), .int (nI i), u3, u4] [] (I, J, R, G) Q := by
  intro f
  induction f with
  | zero =>
    intro i I J R u3 u4 hi hz
    obtain ⟨hz, hrl⟩ := hz
    have hn9 := hO.2.1.2
    have hR := hz.rs hS hR0
    have hst := hz.st hst0 (by omega)
    have hA := hz.ra hA0
    have hO1 : SOk s (cl (I 0 4)) := by rw [hz.1 0 4 (by omega)]; exact hO
    have kr := hz.kr
    have en : I pl 2 = nI (cl (s 1)) := hst.2.2.2.1.2.2.1.trans hO.2.1.1
    refine k_iload f87_13 rfl ?_
    refine k_aload f87_14 rfl ?_
    refine k_getr (q := 17) f87_15 hS.o0 rfl hR.r0_5 ?_
    refine k_getr (q := pl) f87_18 hS.o17 rfl hst.2.1 ?_
    refine k_gI (w := nI (cl (s 1))) f87_21 hst.2.2.1.2.1 rfl en ?_
    refine k_ic_ge f87_24 (fun _ => ?_) (fun h_ => absurd (nI_le (by omega) (by omega)) h_)
    have e : i = cl (s 1) := by omega
    subst e
    exact hk I J R _ _ _ hz hrl
  | succ f ih =>
    intro i I J R u3 u4 hi hz
    obtain ⟨hz, hrl⟩ := hz
    have hn9 := hO.2.1.2
    have hR := hz.rs hS hR0
    have hst := hz.st hst0 (by omega)
    have hA := hz.ra hA0
    have hO1 : SOk s (cl (I 0 4)) := by rw [hz.1 0 4 (by omega)]; exact hO
    have kr := hz.kr
    have en : I pl 2 = nI (cl (s 1)) := hst.2.2.2.1.2.2.1.trans hO.2.1.1
    have hin : i < cl (s 1) := by omega
    obtain ⟨L, eL⟩ : ∃ L, L = rcL I0 s i := ⟨_, rfl⟩
    have hL8 : L.length ≤ i := by rw [eL]; exact rcL_len i
    rw [← eL] at hrl ⊢
    by_cases hL : s 3 - s (8 + 6 * i + 2) ≤ s 7 ∧ (FDk I0 s i 0).1 = -2
    · refine k_iload f87_13 rfl ?_
      refine k_aload f87_14 rfl ?_
      refine k_getr (q := 17) f87_15 hS.o0 rfl hR.r0_5 ?_
      refine k_getr (q := pl) f87_18 hS.o17 rfl hst.2.1 ?_
      refine k_gI (w := nI (cl (s 1))) f87_21 hst.2.2.1.2.1 rfl en ?_
      refine k_ic_ge f87_24 (fun h_ => absurd h_ (nI_ge hin (by omega))) (fun _ => ?_)
      refine k_aload f87_27 rfl ?_
      refine k_iload f87_28 rfl ?_
      refine k_callv (as := [.int (nI i)]) (rest := []) f87_29 hS.o0 rfl rfl rfl rfl (q_layWays (c := i) hR hS hst hO1 hA hin) ?_
      rintro _ _ ⟨rfl, I1, J1, R1, bo, rfl, hl1, hc1⟩
      have hR1 : Rs R1 := hc1.rs hS hR
      refine k_aload f87_32 rfl ?_
      refine k_getr (q := 43) f87_33 hS.o0 rfl hR1.r0_11 ?_
      refine k_iconst (v := 0) f87_36 rfl ?_
      refine k_callv (as := [.int (0)]) (rest := []) f87_37 hS.o43 rfl rfl rfl rfl (q_lostC (g := 0) hR1 hS hO hin (by omega) hl1) ?_
      rintro _ _ ⟨rfl, I2, rfl, h9, hf2⟩
      rw [FDk_kr kr] at h9 ⊢
      have hc2 : CFh I0 R0 I2 R1 := hz.trans (CFr.h (hc1.trans ⟨fun p k hp => hf2 p k (by omega), fun _ _ _ => rfl⟩))
      have hrl2 : RwL I2 49 L := fun k hk => (hf2 49 k (by omega)).trans ((hc1.1 49 k (by omega)).trans (hrl k hk))
      refine k_beq f87_40 (fun h_ => absurd (hL) h_) (fun _ => ?_)
      refine k_aload f87_43 rfl ?_
      refine k_getr (q := 49) f87_44 hS.o0 rfl hR1.r0_13 ?_
      refine k_iload f87_47 rfl ?_
      refine k_aload f87_48 rfl ?_
      refine k_getr (q := 43) f87_49 hS.o0 rfl hR1.r0_11 ?_
      refine k_gI (w := nI (FDk I0 s i 0).2) f87_52 hS.o43 rfl (h9 hL.1) ?_
      refine k_is (k := L.length) f87_55 hS.a49 rfl (by omega) (by decide) ?_
      refine k_iinc (w := nI (L.length + 1)) (L' := [.ref 0, .int (nI (L.length + 1)), .int (nI i), u3, u4]) f87_56 rfl (nI_1 L.length) rfl rfl ?_
      refine k_iinc (w := nI (i + 1)) (L' := [.ref 0, .int (nI (L.length + 1)), .int (nI (i + 1)), u3, u4]) f87_59 rfl (nI_1 i) rfl rfl ?_
      refine k_goto f87_62 ?_
      have e : rcL I0 s (i + 1) = L ++ [(FDk I0 s i 0).2] := by rw [eL]; exact if_pos hL
      refine Eq.mp ?_ (ih (i + 1) (z_u I2 49 L.length (nI (FDk I0 s i 0).2)) J1 R1 u3 u4 (by omega) ⟨hc2.trans ⟨fun p k hp => z_u_p _ _ _ _ (by omega), fun _ _ _ => rfl⟩, by rw [e]; exact hrl2.put⟩)
      rw [e, List.length_append]
      rfl
    · refine k_iload f87_13 rfl ?_
      refine k_aload f87_14 rfl ?_
      refine k_getr (q := 17) f87_15 hS.o0 rfl hR.r0_5 ?_
      refine k_getr (q := pl) f87_18 hS.o17 rfl hst.2.1 ?_
      refine k_gI (w := nI (cl (s 1))) f87_21 hst.2.2.1.2.1 rfl en ?_
      refine k_ic_ge f87_24 (fun h_ => absurd h_ (nI_ge hin (by omega))) (fun _ => ?_)
      refine k_aload f87_27 rfl ?_
      refine k_iload f87_28 rfl ?_
      refine k_callv (as := [.int (nI i)]) (rest := []) f87_29 hS.o0 rfl rfl rfl rfl (q_layWays (c := i) hR hS hst hO1 hA hin) ?_
      rintro _ _ ⟨rfl, I1, J1, R1, bo, rfl, hl1, hc1⟩
      have hR1 : Rs R1 := hc1.rs hS hR
      refine k_aload f87_32 rfl ?_
      refine k_getr (q := 43) f87_33 hS.o0 rfl hR1.r0_11 ?_
      refine k_iconst (v := 0) f87_36 rfl ?_
      refine k_callv (as := [.int (0)]) (rest := []) f87_37 hS.o43 rfl rfl rfl rfl (q_lostC (g := 0) hR1 hS hO hin (by omega) hl1) ?_
      rintro _ _ ⟨rfl, I2, rfl, h9, hf2⟩
      rw [FDk_kr kr] at h9 ⊢
      have hc2 : CFh I0 R0 I2 R1 := hz.trans (CFr.h (hc1.trans ⟨fun p k hp => hf2 p k (by omega), fun _ _ _ => rfl⟩))
      have hrl2 : RwL I2 49 L := fun k hk => (hf2 49 k (by omega)).trans ((hc1.1 49 k (by omega)).trans (hrl k hk))
      refine k_beq f87_40 (fun _ => ?_) (fun h_ => (absurd h_ (hL)))
      refine k_iinc (w := nI (i + 1)) (L' := [.ref 0, .int (nI L.length), .int (nI (i + 1)), u3, u4]) f87_59 rfl (nI_1 i) rfl rfl ?_
      refine k_goto f87_62 ?_
      have e : rcL I0 s (i + 1) = L := by rw [eL]; exact if_neg hL
      refine Eq.mp ?_ (ih (i + 1) I2 J1 R1 u3 u4 (by omega) ⟨hc2, by rw [e]; exact hrl2⟩)
      rw [e]
      rfl
