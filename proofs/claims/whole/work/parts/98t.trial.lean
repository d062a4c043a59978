/-! A TRIAL: the class's second State, the reference's row kept and put back. -/
theorem sts27 {R : Nat → Nat → Option Nat} {G : zG} (hR : Rs R) (hS : Sh G) : StS R G 27 := by
  refine ⟨hS.o27, hR.r27_5, hS.a28, fun c hc => ?_⟩
  match c, hc with
  | 0, _ => exact ⟨hR.r28_0, hS.o29⟩
  | 1, _ => exact ⟨hR.r28_1, hS.o30⟩
  | 2, _ => exact ⟨hR.r28_2, hS.o31⟩
  | 3, _ => exact ⟨hR.r28_3, hS.o32⟩
  | 4, _ => exact ⟨hR.r28_4, hS.o33⟩
  | 5, _ => exact ⟨hR.r28_5, hS.o34⟩
  | 6, _ => exact ⟨hR.r28_6, hS.o35⟩
  | 7, _ => exact ⟨hR.r28_7, hS.o36⟩
theorem ks27 {G : zG} {R : Nat → Nat → Option Nat} (v : Option Nat) : KS G R (z_u R 27 0 v) := fun p k _ h1 _ => z_u_no _ _ (by omega)
theorem rs27 {G : zG} {R : Nat → Nat → Option Nat} (hS : Sh G) (hR : Rs R) (v : Option Nat) : Rs (z_u R 27 0 v) := rs_keep hS hR (fun p k _ h1 _ => z_u_no _ _ (by omega))
theorem ru27 {I : Nat → Nat → Int32} {G : zG} {R : Nat → Nat → Option Nat} {t r : Nat} (h : RuR I R G t r) (v : Option Nat) : RuR I (z_u R 27 0 v) G t r :=
  h.keep Gk.rfl (fun _ _ _ _ => rfl) (fun p k _ hp => z_u_p _ _ _ _ (by omega)) (fun _ _ => rfl) (fun _ _ => rfl) rfl (fun _ _ _ _ _ _ => rfl)
theorem ra27 {I : Nat → Nat → Int32} {G : zG} {R : Nat → Nat → Option Nat} (h : RuA I R G) (v : Option Nat) : RuA I (z_u R 27 0 v) G := ⟨h.1, fun t ht => let ⟨r, h1, h2⟩ := h.2 t ht; ⟨r, (z_u_p _ _ _ _ (by omega)).trans h1, ru27 h2 v⟩⟩
theorem q_trial {x : Nat × (Nat → Int32)} {d : Nat} {I : Nat → Nat → Int32} {J : Nat → Nat → Int64} {R : Nat → Nat → Option Nat} {G : zG} {pl n : Nat} {s : Nat → Int32} (hR : Rs R) (hS : Sh G) (hst : StR I R G 17 pl s) (hsw : SW s) (hn : s 1 = nI n) (hn8 : n ≤ 8) : zOk x (d + 1) 36 0 [.ref 27, .ref 17, zU] [] (I, J, R, G) (fun v m => v = none ∧ ∃ I1, m = (I1, J, z_u R 27 0 (some pl), G) ∧ StR I1 (z_u R 27 0 (some pl)) G 27 pl s ∧ ∀ p k, ¬ (27 ≤ p ∧ p < 37) → I1 p k = I p k) := by
  have hpl := hst.2.2.1.1
  have c1 : cl (s 1) = n := by rw [hn, cl_nI (by omega)]
  refine zOk.imp (s_copy (d := d) (st := 27) (su := 17) (pl := pl) (n := n) (by omega) (by omega) (sts27 hR hS) hst.1 hst.2.1 hst.2.2.1.2.1 (hst.2.2.2.1.2.2.1.trans hn) hn8 (fun c hc => ?_)) (fun v m h => ?_)
  · rw [(hst.2.2.2.2.2.2.2.2 c (by omega)).2.2.2.2.1]
    exact rg_01 (hsw.2.2 c (by omega)).2.2
  · obtain ⟨h1, I1, h2, h3⟩ := h
    refine ⟨h1, I1, h2, hst.copy (sts27 hR hS) (by omega) hn hn8 (by omega) (by omega) h3, fun p k hp => ?_⟩
    rw [h3.1 p k (by omega), cpI_o _ _ (by omega)]
/-! the days of a trial: what is asked of them comes out alike -/
def VY (B n : Nat) (s : Nat → Int32) : Prop := (∃ k, s 3 = nI k ∧ 10000 ≤ k ∧ k ≤ B) ∧ (∃ y, s 7 = nI y ∧ y ≤ 999) ∧ ∀ c, c < n → ∃ b, s (8 + 6 * c + 2) = nI b ∧ b ≤ 2998
theorem VY.va {B n : Nat} {s : Nat → Int32} (h : VY B n s) (hB : B ≤ 100000) : VA n s := by
  obtain ⟨⟨k, k1, k2, k3⟩, ⟨y, y1, y2⟩, h3⟩ := h
  intro c hc
  obtain ⟨b, b1, b2⟩ := h3 c hc
  rw [k1, y1, b1, sub_le (by omega) (by omega) (by omega)]
  omega
theorem VY.dn {B B' n : Nat} {v : Int32} {z : (Nat → Int32) × Int32} (hn : n ≤ 8) (h : VY B n z.1) (hv : ∃ k, v = nI k ∧ 10000 ≤ k ∧ k ≤ B') : VY B' n (dnC v z).1 := by
  obtain ⟨⟨k, k1, k2, k3⟩, ⟨y, y1, y2⟩, h3⟩ := h
  have e : ∀ i, i ≠ 3 → (dnC v z).1 i = z.1 i := fun i hi => fu_no _ _ hi
  refine ⟨by rw [dn_3]; exact hv, ⟨y, (e 7 (by omega)).trans y1, y2⟩, fun c hc => ?_⟩
  rw [e _ (by omega)]
  exact h3 c hc
theorem days_yC {so : (Nat → Int64) → Nat → Bool} {n m : Nat} (hn : n ≤ 8) (ab : Nat → Nat × Nat) : ∀ (D i : Nat) (z : (Nat → Int32) × Int32), VY 19999 n z.1 → (foL (fun i => dC so n m (ab i).1 (ab i).2) i D z).2 = z.2 ∧ (foL (fun i => dC so n m (ab i).1 (ab i).2) i D z).1 4 = z.1 4 ∧ VY 19999 n (foL (fun i => dC so n m (ab i).1 (ab i).2) i D z).1 := by
  intro D
  induction D with
  | zero => intro i z h; exact ⟨rfl, rfl, h⟩
  | succ D ih =>
    intro i z h
    rw [foL_s, va_dC (h.va (by omega))]
    have g : VY 19999 n (dnC (capC (z.1 3)) z).1 := h.dn hn (by
      obtain ⟨⟨k, k1, k2, k3⟩, _⟩ := h
      rw [k1]
      by_cases q : k < 19999
      · obtain ⟨c1, c2⟩ := cap_lt q
        exact ⟨k + 1, c1.trans c2, by omega, by omega⟩
      · have : k = 19999 := by omega
        subst this
        exact ⟨19999, by decide, by omega, by omega⟩)
    have h4 : (dnC (capC (z.1 3)) z).1 4 = z.1 4 := fu_no z.1 (i := 3) (j := 4) (capC (z.1 3)) (by omega)
    obtain ⟨e1, e2, e3⟩ := ih (i + 1) _ g
    exact ⟨e1, e2.trans h4, e3⟩
theorem days_yD {so : (Nat → Int64) → Nat → Bool} {n m : Nat} (hn : n ≤ 8) : ∀ (D i B : Nat) (z : (Nat → Int32) × Int32), B + D ≤ 100000 → VY B n z.1 → (foL (fun _ => dD so n m) i D z).2 = z.2 ∧ (foL (fun _ => dD so n m) i D z).1 4 = z.1 4 ∧ VY (B + D) n (foL (fun _ => dD so n m) i D z).1 := by
  intro D
  induction D with
  | zero => intro i B z _ h; exact ⟨rfl, rfl, h⟩
  | succ D ih =>
    intro i B z hB h
    rw [foL_s, va_dD (h.va (by omega))]
    have g : VY (B + 1) n (dnC (z.1 3 + 1) z).1 := h.dn hn (by
      obtain ⟨⟨k, k1, k2, k3⟩, _⟩ := h
      rw [k1]
      exact ⟨k + 1, nI_1 k, by omega, by omega⟩)
    have h4 : (dnC (z.1 3 + 1) z).1 4 = z.1 4 := fu_no z.1 (i := 3) (j := 4) (z.1 3 + 1) (by omega)
    obtain ⟨e1, e2, e3⟩ := ih (i + 1) (B + 1) _ (by omega) g
    rw [show B + 1 + D = B + (D + 1) by omega] at e3
    exact ⟨e1, e2.trans h4, e3⟩
theorem SOk.vy {s : Nat → Int32} {rn : Nat} (h : SOk s rn) (hk : 10000 ≤ cl (s 3)) : VY 19999 (cl (s 1)) s :=
  ⟨⟨_, h.2.2.2.1.1, hk, by have := h.2.2.2.1.2; omega⟩, ⟨_, h.2.2.2.2.2.2.1.1, by have := h.2.2.2.2.2.2.1.2; omega⟩, fun c hc => ⟨_, (h.2.2.2.2.2.2.2.1 c hc).2.2.1.1, by have := (h.2.2.2.2.2.2.2.1 c hc).2.2.1.2; omega⟩⟩
theorem ahead_eq {so : (Nat → Int64) → Nat → Bool} {rn D : Nat} {s : Nat → Int32} (h : SOk s rn) (hD : D ≤ 400) :
    (foL (fun _ => dD so (cl (s 1)) (cl (s 2))) 0 D (s, 0)).2 = (foL (fun _ => dC so (cl (s 1)) (cl (s 2)) 0 0) 0 D (s, 0)).2 ∧ (foL (fun _ => dD so (cl (s 1)) (cl (s 2))) 0 D (s, 0)).1 4 = (foL (fun _ => dC so (cl (s 1)) (cl (s 2)) 0 0) 0 D (s, 0)).1 4 ∧
    acc (fV (foL (fun _ => dD so (cl (s 1)) (cl (s 2))) 0 D (s, 0)).1) (cl (s 1)) = acc (fV (foL (fun _ => dC so (cl (s 1)) (cl (s 2)) 0 0) 0 D (s, 0)).1) (cl (s 1)) := by
  have hn := h.2.1.2
  by_cases q : cl (s 3) + D ≤ 19999
  · have hx := days_x (so := so) (m := cl (s 2)) (n := cl (s 1)) (by omega) D 0 (cl (s 3)) (s, 0) (s, 0) q h.2.2.2.1.1 (az_0 0)
    have he := az_eq hx.1 (dC_ae (by omega) D 0 (s, 0)) (dD_ae (by omega) D 0 (s, 0))
    refine ⟨by rw [hx.1.2]; exact Int32.add_zero _, by rw [he], by rw [he]⟩
  · have hy := h.vy (by omega)
    obtain ⟨a1, a2, a3⟩ := days_yC (so := so) (m := cl (s 2)) (by omega) (fun _ => (0, 0)) D 0 (s, 0) hy
    obtain ⟨b1, b2, b3⟩ := days_yD (so := so) (m := cl (s 2)) (by omega) D 0 19999 (s, 0) (by omega) hy
    exact ⟨b1.trans a1.symm, b2.trans a2.symm, va_fV (a3.va (by omega)) (b3.va (by omega)) _ (Nat.le_refl _)⟩
theorem lp_keeps {x : Nat × (Nat → Int32)} {d : Nat} {J : Nat → Nat → Int64} {R : Nat → Nat → Option Nat} {G : zG} {I0 : Nat → Nat → Int32} (hR : Rs R) (hS : Sh G) : ∀ (f i : Nat) (I : Nat → Nat → Int32), i + f = 139 → rwH I0 I 63 0 62 0 i → zOk x d 180 2 [.ref 51, .int (nI i)] [] (I, J, R, G) (fun v m => v = none ∧ ∃ I', m = (I', J, R, G) ∧ rwH I0 I' 63 0 62 0 139) := by
  intro f
  induction f with
  | zero =>
    intro i I hi hH
    have hi : i = 139 := by omega
    subst hi
    refine k_iload f180_2 rfl ?_
    refine k_iconst (v := 139) f180_3 rfl ?_
    refine k_ic_ge f180_6 (fun _ => ?_) (fun h_ => absurd (by decide) h_)
    exact k_vret f180_27 ⟨rfl, I, rfl, hH⟩
  | succ f ih =>
    intro i I hi hH
    refine k_iload f180_2 rfl ?_
    refine k_iconst (v := 139) f180_3 rfl ?_
    refine k_ic_ge f180_6 (fun h_ => absurd h_ (nI_ge (b := 139) (by omega) (by omega))) (fun _ => ?_)
    refine k_aload f180_9 rfl ?_
    refine k_getr (q := 63) f180_10 hS.o51 rfl hR.r51_27 ?_
    refine k_iload f180_13 rfl ?_
    refine k_aload f180_14 rfl ?_
    refine k_getr (q := 62) f180_15 hS.o51 rfl hR.r51_25 ?_
    refine k_iload f180_18 rfl ?_
    refine k_ia (k := i) (w := I 62 i) f180_19 hS.a62 rfl (by omega) (by decide) rfl ?_
    refine k_is (k := i) f180_20 hS.a63 rfl (by omega) (by decide) ?_
    refine k_iinc (w := nI (i + 1)) (L' := [.ref 51, .int (nI (i + 1))]) f180_21 rfl (nI_1 i) rfl rfl ?_
    refine k_goto f180_24 ?_
    have hs := rwH_s hH (by decide)
    rw [Nat.zero_add] at hs
    exact ih (i + 1) _ (by omega) hs
theorem q_keeps {x : Nat × (Nat → Int32)} {d : Nat} {I : Nat → Nat → Int32} {J : Nat → Nat → Int64} {R : Nat → Nat → Option Nat} {G : zG} (hR : Rs R) (hS : Sh G) : zOk x d 180 0 [.ref 51, zU] [] (I, J, R, G) (fun v m => v = none ∧ ∃ I', m = (I', J, R, G) ∧ rwH I I' 63 0 62 0 139) := by
  refine k_iconst (v := 0) f180_0 rfl ?_
  refine k_istore (L' := [.ref 51, .int (0)]) f180_1 rfl rfl ?_
  exact lp_keeps hR hS 139 0 I (by omega) (rwH_0 _ _ _ _ _)
theorem lp_putsBack {x : Nat × (Nat → Int32)} {d : Nat} {J : Nat → Nat → Int64} {R : Nat → Nat → Option Nat} {G : zG} {I0 : Nat → Nat → Int32} (hR : Rs R) (hS : Sh G) : ∀ (f i : Nat) (I : Nat → Nat → Int32), i + f = 139 → rwH I0 I 62 0 63 0 i → zOk x d 181 2 [.ref 51, .int (nI i)] [] (I, J, R, G) (fun v m => v = none ∧ ∃ I', m = (I', J, R, G) ∧ rwH I0 I' 62 0 63 0 139) := by
  intro f
  induction f with
  | zero =>
    intro i I hi hH
    have hi : i = 139 := by omega
    subst hi
    refine k_iload f181_2 rfl ?_
    refine k_iconst (v := 139) f181_3 rfl ?_
    refine k_ic_ge f181_6 (fun _ => ?_) (fun h_ => absurd (by decide) h_)
    exact k_vret f181_27 ⟨rfl, I, rfl, hH⟩
  | succ f ih =>
    intro i I hi hH
    refine k_iload f181_2 rfl ?_
    refine k_iconst (v := 139) f181_3 rfl ?_
    refine k_ic_ge f181_6 (fun h_ => absurd h_ (nI_ge (b := 139) (by omega) (by omega))) (fun _ => ?_)
    refine k_aload f181_9 rfl ?_
    refine k_getr (q := 62) f181_10 hS.o51 rfl hR.r51_25 ?_
    refine k_iload f181_13 rfl ?_
    refine k_aload f181_14 rfl ?_
    refine k_getr (q := 63) f181_15 hS.o51 rfl hR.r51_27 ?_
    refine k_iload f181_18 rfl ?_
    refine k_ia (k := i) (w := I 63 i) f181_19 hS.a63 rfl (by omega) (by decide) rfl ?_
    refine k_is (k := i) f181_20 hS.a62 rfl (by omega) (by decide) ?_
    refine k_iinc (w := nI (i + 1)) (L' := [.ref 51, .int (nI (i + 1))]) f181_21 rfl (nI_1 i) rfl rfl ?_
    refine k_goto f181_24 ?_
    have hs := rwH_s hH (by decide)
    rw [Nat.zero_add] at hs
    exact ih (i + 1) _ (by omega) hs
theorem q_putsBack {x : Nat × (Nat → Int32)} {d : Nat} {I : Nat → Nat → Int32} {J : Nat → Nat → Int64} {R : Nat → Nat → Option Nat} {G : zG} (hR : Rs R) (hS : Sh G) : zOk x d 181 0 [.ref 51, zU] [] (I, J, R, G) (fun v m => v = none ∧ ∃ I', m = (I', J, R, G) ∧ rwH I I' 62 0 63 0 139) := by
  refine k_iconst (v := 0) f181_0 rfl ?_
  refine k_istore (L' := [.ref 51, .int (0)]) f181_1 rfl rfl ?_
  exact lp_putsBack hR hS 139 0 I (by omega) (rwH_0 _ _ _ _ _)
theorem lp_ahead {x : Nat × (Nat → Int32)} {d : Nat} {R : Nat → Nat → Option Nat} {G : zG} {I0 : Nat → Nat → Int32} {t n m D : Nat} {wh : Int32} {zf : (Nat → Int32) × Int32} {Q : Option Value → zM → Prop} (hR : Rs R) (hS : Sh G) (ht6 : t < 6) (hA : RuA I0 R G) (ht : t < cl (I0 0 4)) (hn8 : n ≤ 8) (hD : D ≤ 400) (hk : ∀ I J, RZ I0 zf.1 zf I → zOk x (d + 7) 182 72 [.ref 51, .int (nI t), .int (nI D), .int wh, .int (nI D)] [] (I, J, R, G) Q) : ∀ (f i : Nat) (z : (Nat → Int32) × Int32) (I : Nat → Nat → Int32) (J : Nat → Nat → Int64), i + f = D → (RZ I0 z.1 z I ∧ z.1 1 = nI n ∧ MW z.1 m ∧ foL (fun _ => dD (soB I0 t) n m) i f z = zf) → zOk x (d + 7) 182 55 [.ref 51, .int (nI t), .int (nI D), .int (wh), .int (nI i)] [] (I, J, R, G) Q := by
  intro f
  induction f with
  | zero =>
    intro i z I J hi hz
    obtain ⟨hz, hn, hmw, hf⟩ := hz
    refine k_iload f182_55 rfl ?_
    refine k_iload f182_57 rfl ?_
    refine k_ic_ge f182_58 (fun _ => ?_) (fun h_ => absurd (nI_le (by omega) (by omega)) h_)
    have e : i = D := by omega
    subst e
    exact hk I J (hf ▸ hz)
  | succ f ih =>
    intro i z I J hi hz
    obtain ⟨hz, hn, hmw, hf⟩ := hz
    have hin : i < D := by omega
    refine k_iload f182_55 rfl ?_
    refine k_iload f182_57 rfl ?_
    refine k_ic_ge f182_58 (fun h_ => absurd h_ (nI_ge hin (by omega))) (fun _ => ?_)
    refine k_aload f182_61 rfl ?_
    refine k_iload f182_62 rfl ?_
    refine k_callv (as := [.int (nI t)]) (rest := []) f182_63 hS.o51 rfl rfl rfl rfl (q_passes hR hS ht6 hA ht hn hn8 hmw hz) ?_
    rintro _ _ ⟨rfl, I1, J1, rfl, hz1⟩
    refine k_iinc (w := nI (i + 1)) (L' := [.ref 51, .int (nI t), .int (nI D), .int (wh), .int (nI (i + 1))]) f182_66 rfl (nI_1 i) rfl rfl ?_
    refine k_goto f182_69 ?_
    have ae : AE z.1 (dD (soB I0 t) n m z).1 := AE.of hz1.2.2.2.1
    exact ih (i + 1) _ I1 J1 (by omega) ⟨hz1.re, (ae 1 (by omega)).trans hn, hmw.ae ae, hf⟩
