/-! NEVER. -/
def CFn (I0 : Nat → Nat → Int32) (R0 : Nat → Nat → Option Nat) (I : Nat → Nat → Int32) (R : Nat → Nat → Option Nat) : Prop := (∀ p k, p ≠ 38 → ¬ (43 ≤ p ∧ p ≤ 46) → I p k = I0 p k) ∧ ∀ p k, ¬ (p = 43 ∧ (k = 2 ∨ k = 3)) → R p k = R0 p k
theorem CFn.trans {I0 I1 I2 : Nat → Nat → Int32} {R0 R1 R2 : Nat → Nat → Option Nat} (h : CFn I0 R0 I1 R1) (g : CFn I1 R1 I2 R2) : CFn I0 R0 I2 R2 := ⟨fun p k q1 q => (g.1 p k q1 q).trans (h.1 p k q1 q), fun p k q => (g.2 p k q).trans (h.2 p k q)⟩
theorem CFn.kr {I0 I1 : Nat → Nat → Int32} {R0 R1 : Nat → Nat → Option Nat} (h : CFn I0 R0 I1 R1) : Kr I0 I1 := fun p k q => h.1 p k (by omega) (by omega)
theorem CFn.rs {I0 I1 : Nat → Nat → Int32} {R0 R1 : Nat → Nat → Option Nat} {G : zG} (h : CFn I0 R0 I1 R1) (hS : Sh G) (hR : Rs R0) : Rs R1 := rs_keep hS hR (fun p k _ _ h2 => h.2 p k h2)
theorem CFn.st {I0 I1 : Nat → Nat → Int32} {R0 R1 : Nat → Nat → Option Nat} {G : zG} {pl : Nat} {s : Nat → Int32} (h : CFn I0 R0 I1 R1) (hs : StR I0 R0 G 17 pl s) (h8 : cl (s 1) ≤ 8) : StR I1 R1 G 17 pl s := by
  have hpl := hs.2.2.1.1
  exact hs.keep h8 Gk.rfl (fun p k _ hp => h.1 p k (by omega) (by omega)) (fun p k _ hp => h.2 p k (by omega))
theorem CFn.br {I0 I1 : Nat → Nat → Int32} {R0 R1 : Nat → Nat → Option Nat} {G : zG} {bo : Option Nat} {f : Int32} (h : CFn I0 R0 I1 R1) (hb : BR I0 R0 G bo f) : BR I1 R1 G bo f := (hb.kr h.kr).rr fun p k hp => h.2 p k (by omega)
def FDn (b : Nat → Nat → Int32) (s : Nat → Int32) (p D : Nat) : Int32 × Nat := FD (baB b (s 6)) s (cl (s 1)) (cl (s 2)) (s 1) 1 (nI D) (nI D) 0 p (2 ^ p) 0
def SEn (b : Nat → Nat → Int32) (s : Nat → Int32) (p D : Nat) : Nat × (Nat → Nat) × Int32 × Nat := SE (baB b (s 6)) s (cl (s 1)) (cl (s 2)) (s 1) 1 (nI D) (nI D) 0 p (2 ^ p) 0
theorem p_1024 {p : Nat} (h : p < 10) : 2 ^ p < 1024 := Nat.lt_of_lt_of_le (Nat.pow_lt_pow_right (by omega) h) (Nat.le_refl _)
theorem sen {b : Nat → Nat → Int32} {s : Nat → Int32} {rn p D : Nat} (h : SOk s rn) (hp : p < 10) (hD : D < 30000) : (SEn b s p D).2.2.1 = (FDn b s p D).1 ∧ ((FDn b s p D).1 = -2 ∨ 0 ≤ (FDn b s p D).1) := by
  have hm := h.2.2.1.2
  exact ⟨(SE_FD h.md (by omega) (Rg.of hD (by omega)) h.2.2.2.2.2.2.1 (Rg.of hD (by omega)) hp (p_1024 hp) (by simp)).1, FD_c h.md (nI_pos' (by omega))⟩
theorem FDn_kr {b b' : Nat → Nat → Int32} {s : Nat → Int32} {p D : Nat} (h : Kr b b') : FDn b' s p D = FDn b s p D := by
  unfold FDn
  rw [show baB b' (s 6) = baB b (s 6) from funext fun w => baB_kr h _ w]
theorem SEn_kr {b b' : Nat → Nat → Int32} {s : Nat → Int32} {p D : Nat} (h : Kr b b') : SEn b' s p D = SEn b s p D := by
  unfold SEn
  rw [show baB b' (s 6) = baB b (s 6) from funext fun w => baB_kr h _ w]
def nvF (b : Nat → Nat → Int32) (s : Nat → Int32) (p : Nat) : Nat → Nat → Int32
  | 0, _ => -2
  | k + 1, D => if (FDn b s p D).1 = -2 then nI D else nvF b s p k (D + 1)
theorem s_cnBegin {x : Nat × (Nat → Int32)} {d : Nat} {I : Nat → Nat → Int32} {J : Nat → Nat → Int64} {R : Nat → Nat → Option Nat} {G : zG} {q p : Nat} {wo dy : Int32} (hq : zo G q 1) : zRn x (d + 1) 9 [.ref q, .int (wo), .int (nI p), .int (dy)] (I, J, R, G) none (z_u (z_u (z_u (z_u (z_u (z_u (z_u I q 0 wo) q 1 (nI p)) q 5 0) q 6 (-1)) q 2 dy) q 3 ((1) <<< ((nI p) &&& 31))) q 4 0, J, R, G) := by
  show zOk x (d + 1) 9 0 [.ref q, .int (wo), .int (nI p), .int (dy)] [] _ _
  refine k_aload f9_0 rfl ?_
  refine k_iload f9_1 rfl ?_
  refine k_putI f9_2 hq rfl ?_
  refine k_aload f9_5 rfl ?_
  refine k_iload f9_6 rfl ?_
  refine k_putI f9_7 hq rfl ?_
  refine k_aload f9_10 rfl ?_
  refine k_iconst (v := 0) f9_11 rfl ?_
  refine k_putI f9_12 hq rfl ?_
  refine k_aload f9_15 rfl ?_
  refine k_iconst (v := (-1)) f9_16 rfl ?_
  refine k_putI f9_17 hq rfl ?_
  refine k_aload f9_20 rfl ?_
  refine k_iload f9_21 rfl ?_
  refine e_v (as := [.int (dy)]) (rest := []) f9_22 hq rfl rfl rfl (s_stampAnew (q := q) (dy := dy) (ho := nI p) hq ((Eq.trans (z_u_k _ _ _ (by decide)) (Eq.trans (z_u_k _ _ _ (by decide)) (z_u_same _ _ _ _))))) ?_
  exact k_vret f9_25 ⟨rfl, rfl⟩
theorem lp_never0 {x : Nat × (Nat → Int32)} {d : Nat} {G : zG} {I0 : Nat → Nat → Int32} {R0 : Nat → Nat → Option Nat} {s : Nat → Int32} {pl p N : Nat} (hR0 : Rs R0) (hS : Sh G) (hst0 : StR I0 R0 G 17 pl s) (hO : SOk s (cl (I0 0 4))) (hbr0 : BR I0 R0 G none (s 6)) (hp : p < 10) (hN : N ≤ 400) : ∀ (f i : Nat) (I : Nat → Nat → Int32) (J : Nat → Nat → Int64) (R : Nat → Nat → Option Nat) (u5 : Value), i + f = N → CFn I0 R0 I R → zOk x (d + 6) 90 37 [.ref 0, .int (nI p), .int (nI N), .null, .int (nI i), u5] [] (I, J, R, G) (fun v mm => v = some (.int (nvF I0 s p f (cl (s 3) + i))) ∧ ∃ I' J' R', mm = (I', J', R', G) ∧ CFn I0 R0 I' R') := by
  intro f
  induction f with
  | zero =>
    intro i I J R u5 hi hz
    have hn9 := hO.2.1.2
    have hm25 := hO.2.2.1.2
    have hd20 := hO.2.2.2.1.2
    have hR := hz.rs hS hR0
    have hst := hz.st hst0 (by omega)
    have kr := hz.kr
    have ed : I 17 1 = nI (cl (s 3)) := hst.2.2.2.2.1.trans hO.2.2.2.1.1
    have en : I pl 2 = s 1 := hst.2.2.2.1.2.2.1
    refine k_iload f90_37 rfl ?_
    refine k_iload f90_39 rfl ?_
    refine k_ic_ge f90_40 (fun _ => ?_) (fun h_ => absurd (nI_le (by omega) (by omega)) h_)
    refine k_iconst (v := (-2)) f90_110 rfl ?_
    exact k_iret f90_112 rfl ⟨rfl, I, J, R, rfl, hz⟩
  | succ f ih =>
    intro i I J R u5 hi hz
    have hn9 := hO.2.1.2
    have hm25 := hO.2.2.1.2
    have hd20 := hO.2.2.2.1.2
    have hR := hz.rs hS hR0
    have hst := hz.st hst0 (by omega)
    have kr := hz.kr
    have ed : I 17 1 = nI (cl (s 3)) := hst.2.2.2.2.1.trans hO.2.2.2.1.1
    have en : I pl 2 = s 1 := hst.2.2.2.1.2.2.1
    have hin : i < N := by omega
    have hD : cl (s 3) + i < 30000 := by omega
    obtain ⟨D, eD⟩ : ∃ D, D = cl (s 3) + i := ⟨_, rfl⟩
    have h07 : 0 ≤ s 7 := rg_0le hO.2.2.2.2.2.2.1 (by omega)
    have gd : nI D - nI D ≤ s 7 := by rw [pk_sub (Nat.le_refl _), Nat.sub_self]; exact h07
    by_cases hL : nI D - nI D ≤ s 7 ∧ (FDn I0 s p D).1 = -2
    · refine k_iload f90_37 rfl ?_
      refine k_iload f90_39 rfl ?_
      refine k_ic_ge f90_40 (fun h_ => absurd h_ (nI_ge hin (by omega))) (fun _ => ?_)
      refine k_aload f90_43 rfl ?_
      refine k_getr (q := 17) f90_44 hS.o0 rfl hR.r0_5 ?_
      refine k_gI (w := nI (cl (s 3))) f90_47 hS.o17 rfl ed ?_
      refine k_iload f90_50 rfl ?_
      refine k_iadd f90_52 ?_
      rw [nI_add, ← eD]
      refine k_istore (L' := [.ref 0, .int (nI p), .int (nI N), .null, .int (nI i), .int (nI D)]) f90_53 rfl rfl ?_
      refine k_aload f90_55 rfl ?_
      refine k_getr (q := 38) f90_56 hS.o0 rfl hR.r0_8 ?_
      refine k_iconst (v := 1) f90_59 rfl ?_
      refine k_iload f90_60 rfl ?_
      refine k_iload f90_61 rfl ?_
      refine e_v (as := [.int (nI D), .int (nI p), .int (1)]) (rest := []) f90_63 hS.o38 rfl rfl rfl (s_cnBegin (q := 38) (p := p) (wo := 1) (dy := nI D) hS.o38) ?_
      obtain ⟨I1, eI1⟩ : ∃ I1, I1 = z_u (z_u (z_u (z_u (z_u (z_u (z_u I 38 0 1) 38 1 (nI p)) 38 5 0) 38 6 (-1)) 38 2 (nI D)) 38 3 ((1) <<< ((nI p) &&& 31))) 38 4 0 := ⟨_, rfl⟩
      rw [← eI1]
      have f1 : ∀ p k, p ≠ 38 → I1 p k = I p k := fun p k h => by rw [eI1]; repeat rw [z_u_p _ _ _ _ h]
      have c0 : I1 38 0 = 1 := by rw [eI1]; simp [z_u]
      have c1 : I1 38 1 = nI p := by rw [eI1]; simp [z_u]
      have c2 : I1 38 2 = nI D := by rw [eI1]; simp [z_u]
      have c3 : I1 38 3 = nI (2 ^ p) := by rw [eI1, ← sh_1 p (by omega)]; simp [z_u]
      have c4 : I1 38 4 = 0 := by rw [eI1]; simp [z_u]
      have hf1 : CFn I0 R0 I1 R := hz.trans ⟨fun p k h _ => f1 p k h, fun _ _ _ => rfl⟩
      refine k_aload f90_66 rfl ?_
      refine k_getr (q := 43) f90_67 hS.o0 rfl hR.r0_11 ?_
      refine k_aloadn f90_70 rfl ?_
      refine k_aload f90_71 rfl ?_
      refine k_getr (q := 38) f90_72 hS.o0 rfl hR.r0_8 ?_
      refine k_aload f90_75 rfl ?_
      refine k_getr (q := 17) f90_76 hS.o0 rfl hR.r0_5 ?_
      refine k_getr (q := pl) f90_79 hS.o17 rfl hst.2.1 ?_
      refine k_gI (w := s 1) f90_82 hst.2.2.1.2.1 rfl ((f1 _ _ (by have := hst.2.2.1.1; omega)).trans en) ?_
      refine k_iload f90_85 rfl ?_
      refine k_callv (as := [.int (nI D), .int (s 1), .ref 38, .null]) (rest := []) f90_87 hS.o43 rfl rfl rfl rfl (q_lay0 (q := 38) (fo := s 6) (n := cl (s 1)) (m := cl (s 2)) (h := 2 ^ p) (p := p) hR hS (hf1.st hst0 (by omega)) hO.2.1.1 (by omega) hO.mw (by omega) hO.1.2 (hf1.br hbr0) hS.o38 (Or.inl rfl) c0 c1 c2 c3 c4 (p_1024 hp)) ?_
      rintro _ _ ⟨rfl, I2, J2, rfl, hw2, hf2, hl2, hy2, hn2⟩
      obtain ⟨R2, eR2⟩ : ∃ R2, R2 = z_u (z_u R 43 2 none) 43 3 (some 38) := ⟨_, rfl⟩
      rw [← eR2] at hw2 ⊢
      have hR2 : Rs R2 := eR2 ▸ rs43 hS hR _ _
      have ebb : baB I1 (s 6) = baB I0 (s 6) := funext fun w => baB_kr hf1.kr _ w
      have nh : ¬ hoN (baB I1 (s 6)) s (cl (s 1)) (s 1) 1 (nI D) (nI D) 0 p (2 ^ p) := fun k => k.2.1 rfl
      have hl : LD (baB I0 (s 6)) I2 R2 G pl 38 s (cl (s 1)) (cl (s 2)) none (s 6) (s 1) 1 (nI D) (nI D) 0 p (2 ^ p) := ⟨hw2, ebb ▸ hl2, by rw [hn2 nh, bI_v0 (fun k => (hoB_iff.mp k).2.1 rfl)], by rw [eR2, z_u_k _ _ _ (by omega), z_u_same], by rw [eR2, z_u_same]⟩
      have hf3 : CFn I0 R0 I2 R2 := hf1.trans ⟨fun p k h1 h2 => hf2 p k (by omega) (by omega), fun p k h => by rw [eR2, z_u_no _ _ (by omega), z_u_no _ _ (by omega)]⟩
      refine k_aload f90_90 rfl ?_
      refine k_getr (q := 43) f90_91 hS.o0 rfl hR2.r0_11 ?_
      refine k_iconst (v := 0) f90_94 rfl ?_
      refine k_callv (as := [.int (0)]) (rest := []) f90_95 hS.o43 rfl rfl rfl rfl (q_lost (g := 0) (q := 38) hR2 hS hO.2.1.1 (by omega) hO.mw (by omega) hO.1.2 hS.o38 (Or.inl rfl) hp (by omega) hl) ?_
      rintro _ _ ⟨rfl, I3, rfl, h9, hf4⟩
      have hf5 : CFn I0 R0 I3 R2 := hf3.trans ⟨fun p k _ h => hf4 p k (by omega), fun _ _ _ => rfl⟩
      refine k_beq f90_98 (fun h_ => absurd (hL) h_) (fun _ => ?_)
      refine k_iload f90_101 rfl ?_
      exact k_iret f90_103 rfl ⟨by rw [show nvF I0 s p (f + 1) D = nI D from if_pos hL.2], I3, J2, R2, rfl, hf5⟩
    · refine k_iload f90_37 rfl ?_
      refine k_iload f90_39 rfl ?_
      refine k_ic_ge f90_40 (fun h_ => absurd h_ (nI_ge hin (by omega))) (fun _ => ?_)
      refine k_aload f90_43 rfl ?_
      refine k_getr (q := 17) f90_44 hS.o0 rfl hR.r0_5 ?_
      refine k_gI (w := nI (cl (s 3))) f90_47 hS.o17 rfl ed ?_
      refine k_iload f90_50 rfl ?_
      refine k_iadd f90_52 ?_
      rw [nI_add, ← eD]
      refine k_istore (L' := [.ref 0, .int (nI p), .int (nI N), .null, .int (nI i), .int (nI D)]) f90_53 rfl rfl ?_
      refine k_aload f90_55 rfl ?_
      refine k_getr (q := 38) f90_56 hS.o0 rfl hR.r0_8 ?_
      refine k_iconst (v := 1) f90_59 rfl ?_
      refine k_iload f90_60 rfl ?_
      refine k_iload f90_61 rfl ?_
      refine e_v (as := [.int (nI D), .int (nI p), .int (1)]) (rest := []) f90_63 hS.o38 rfl rfl rfl (s_cnBegin (q := 38) (p := p) (wo := 1) (dy := nI D) hS.o38) ?_
      obtain ⟨I1, eI1⟩ : ∃ I1, I1 = z_u (z_u (z_u (z_u (z_u (z_u (z_u I 38 0 1) 38 1 (nI p)) 38 5 0) 38 6 (-1)) 38 2 (nI D)) 38 3 ((1) <<< ((nI p) &&& 31))) 38 4 0 := ⟨_, rfl⟩
      rw [← eI1]
      have f1 : ∀ p k, p ≠ 38 → I1 p k = I p k := fun p k h => by rw [eI1]; repeat rw [z_u_p _ _ _ _ h]
      have c0 : I1 38 0 = 1 := by rw [eI1]; simp [z_u]
      have c1 : I1 38 1 = nI p := by rw [eI1]; simp [z_u]
      have c2 : I1 38 2 = nI D := by rw [eI1]; simp [z_u]
      have c3 : I1 38 3 = nI (2 ^ p) := by rw [eI1, ← sh_1 p (by omega)]; simp [z_u]
      have c4 : I1 38 4 = 0 := by rw [eI1]; simp [z_u]
      have hf1 : CFn I0 R0 I1 R := hz.trans ⟨fun p k h _ => f1 p k h, fun _ _ _ => rfl⟩
      refine k_aload f90_66 rfl ?_
      refine k_getr (q := 43) f90_67 hS.o0 rfl hR.r0_11 ?_
      refine k_aloadn f90_70 rfl ?_
      refine k_aload f90_71 rfl ?_
      refine k_getr (q := 38) f90_72 hS.o0 rfl hR.r0_8 ?_
      refine k_aload f90_75 rfl ?_
      refine k_getr (q := 17) f90_76 hS.o0 rfl hR.r0_5 ?_
      refine k_getr (q := pl) f90_79 hS.o17 rfl hst.2.1 ?_
      refine k_gI (w := s 1) f90_82 hst.2.2.1.2.1 rfl ((f1 _ _ (by have := hst.2.2.1.1; omega)).trans en) ?_
      refine k_iload f90_85 rfl ?_
      refine k_callv (as := [.int (nI D), .int (s 1), .ref 38, .null]) (rest := []) f90_87 hS.o43 rfl rfl rfl rfl (q_lay0 (q := 38) (fo := s 6) (n := cl (s 1)) (m := cl (s 2)) (h := 2 ^ p) (p := p) hR hS (hf1.st hst0 (by omega)) hO.2.1.1 (by omega) hO.mw (by omega) hO.1.2 (hf1.br hbr0) hS.o38 (Or.inl rfl) c0 c1 c2 c3 c4 (p_1024 hp)) ?_
      rintro _ _ ⟨rfl, I2, J2, rfl, hw2, hf2, hl2, hy2, hn2⟩
      obtain ⟨R2, eR2⟩ : ∃ R2, R2 = z_u (z_u R 43 2 none) 43 3 (some 38) := ⟨_, rfl⟩
      rw [← eR2] at hw2 ⊢
      have hR2 : Rs R2 := eR2 ▸ rs43 hS hR _ _
      have ebb : baB I1 (s 6) = baB I0 (s 6) := funext fun w => baB_kr hf1.kr _ w
      have nh : ¬ hoN (baB I1 (s 6)) s (cl (s 1)) (s 1) 1 (nI D) (nI D) 0 p (2 ^ p) := fun k => k.2.1 rfl
      have hl : LD (baB I0 (s 6)) I2 R2 G pl 38 s (cl (s 1)) (cl (s 2)) none (s 6) (s 1) 1 (nI D) (nI D) 0 p (2 ^ p) := ⟨hw2, ebb ▸ hl2, by rw [hn2 nh, bI_v0 (fun k => (hoB_iff.mp k).2.1 rfl)], by rw [eR2, z_u_k _ _ _ (by omega), z_u_same], by rw [eR2, z_u_same]⟩
      have hf3 : CFn I0 R0 I2 R2 := hf1.trans ⟨fun p k h1 h2 => hf2 p k (by omega) (by omega), fun p k h => by rw [eR2, z_u_no _ _ (by omega), z_u_no _ _ (by omega)]⟩
      refine k_aload f90_90 rfl ?_
      refine k_getr (q := 43) f90_91 hS.o0 rfl hR2.r0_11 ?_
      refine k_iconst (v := 0) f90_94 rfl ?_
      refine k_callv (as := [.int (0)]) (rest := []) f90_95 hS.o43 rfl rfl rfl rfl (q_lost (g := 0) (q := 38) hR2 hS hO.2.1.1 (by omega) hO.mw (by omega) hO.1.2 hS.o38 (Or.inl rfl) hp (by omega) hl) ?_
      rintro _ _ ⟨rfl, I3, rfl, h9, hf4⟩
      have hf5 : CFn I0 R0 I3 R2 := hf3.trans ⟨fun p k _ h => hf4 p k (by omega), fun _ _ _ => rfl⟩
      refine k_beq f90_98 (fun _ => ?_) (fun h_ => (absurd h_ (hL)))
      refine k_iinc (w := nI (i + 1)) (L' := [.ref 0, .int (nI p), .int (nI N), .null, .int (nI (i + 1)), .int (nI D)]) f90_104 rfl (nI_1 i) rfl rfl ?_
      refine k_goto f90_107 ?_
      rw [show nvF I0 s p (f + 1) D = nvF I0 s p f (D + 1) from if_neg (fun q => hL ⟨gd, q⟩), show D + 1 = cl (s 3) + (i + 1) by omega]
      exact ih (i + 1) I3 J2 R2 _ (by omega) hf5
theorem lp_never1 {x : Nat × (Nat → Int32)} {d : Nat} {G : zG} {I0 : Nat → Nat → Int32} {R0 : Nat → Nat → Option Nat} {s : Nat → Int32} {pl p N r : Nat} (hR0 : Rs R0) (hS : Sh G) (hst0 : StR I0 R0 G 17 pl s) (hO : SOk s (cl (I0 0 4))) (hbr0 : BR I0 R0 G (some r) (s 6)) (hp : p < 10) (hN : N ≤ 400) : ∀ (f i : Nat) (I : Nat → Nat → Int32) (J : Nat → Nat → Int64) (R : Nat → Nat → Option Nat) (u5 : Value), i + f = N → CFn I0 R0 I R → zOk x (d + 6) 90 37 [.ref 0, .int (nI p), .int (nI N), .ref r, .int (nI i), u5] [] (I, J, R, G) (fun v mm => v = some (.int (nvF I0 s p f (cl (s 3) + i))) ∧ ∃ I' J' R', mm = (I', J', R', G) ∧ CFn I0 R0 I' R') := by
  intro f
  induction f with
  | zero =>
    intro i I J R u5 hi hz
    have hn9 := hO.2.1.2
    have hm25 := hO.2.2.1.2
    have hd20 := hO.2.2.2.1.2
    have hR := hz.rs hS hR0
    have hst := hz.st hst0 (by omega)
    have kr := hz.kr
    have ed : I 17 1 = nI (cl (s 3)) := hst.2.2.2.2.1.trans hO.2.2.2.1.1
    have en : I pl 2 = s 1 := hst.2.2.2.1.2.2.1
    refine k_iload f90_37 rfl ?_
    refine k_iload f90_39 rfl ?_
    refine k_ic_ge f90_40 (fun _ => ?_) (fun h_ => absurd (nI_le (by omega) (by omega)) h_)
    refine k_iconst (v := (-2)) f90_110 rfl ?_
    exact k_iret f90_112 rfl ⟨rfl, I, J, R, rfl, hz⟩
  | succ f ih =>
    intro i I J R u5 hi hz
    have hn9 := hO.2.1.2
    have hm25 := hO.2.2.1.2
    have hd20 := hO.2.2.2.1.2
    have hR := hz.rs hS hR0
    have hst := hz.st hst0 (by omega)
    have kr := hz.kr
    have ed : I 17 1 = nI (cl (s 3)) := hst.2.2.2.2.1.trans hO.2.2.2.1.1
    have en : I pl 2 = s 1 := hst.2.2.2.1.2.2.1
    have hin : i < N := by omega
    have hD : cl (s 3) + i < 30000 := by omega
    obtain ⟨D, eD⟩ : ∃ D, D = cl (s 3) + i := ⟨_, rfl⟩
    have h07 : 0 ≤ s 7 := rg_0le hO.2.2.2.2.2.2.1 (by omega)
    have gd : nI D - nI D ≤ s 7 := by rw [pk_sub (Nat.le_refl _), Nat.sub_self]; exact h07
    by_cases hL : nI D - nI D ≤ s 7 ∧ (FDn I0 s p D).1 = -2
    · refine k_iload f90_37 rfl ?_
      refine k_iload f90_39 rfl ?_
      refine k_ic_ge f90_40 (fun h_ => absurd h_ (nI_ge hin (by omega))) (fun _ => ?_)
      refine k_aload f90_43 rfl ?_
      refine k_getr (q := 17) f90_44 hS.o0 rfl hR.r0_5 ?_
      refine k_gI (w := nI (cl (s 3))) f90_47 hS.o17 rfl ed ?_
      refine k_iload f90_50 rfl ?_
      refine k_iadd f90_52 ?_
      rw [nI_add, ← eD]
      refine k_istore (L' := [.ref 0, .int (nI p), .int (nI N), .ref r, .int (nI i), .int (nI D)]) f90_53 rfl rfl ?_
      refine k_aload f90_55 rfl ?_
      refine k_getr (q := 38) f90_56 hS.o0 rfl hR.r0_8 ?_
      refine k_iconst (v := 1) f90_59 rfl ?_
      refine k_iload f90_60 rfl ?_
      refine k_iload f90_61 rfl ?_
      refine e_v (as := [.int (nI D), .int (nI p), .int (1)]) (rest := []) f90_63 hS.o38 rfl rfl rfl (s_cnBegin (q := 38) (p := p) (wo := 1) (dy := nI D) hS.o38) ?_
      obtain ⟨I1, eI1⟩ : ∃ I1, I1 = z_u (z_u (z_u (z_u (z_u (z_u (z_u I 38 0 1) 38 1 (nI p)) 38 5 0) 38 6 (-1)) 38 2 (nI D)) 38 3 ((1) <<< ((nI p) &&& 31))) 38 4 0 := ⟨_, rfl⟩
      rw [← eI1]
      have f1 : ∀ p k, p ≠ 38 → I1 p k = I p k := fun p k h => by rw [eI1]; repeat rw [z_u_p _ _ _ _ h]
      have c0 : I1 38 0 = 1 := by rw [eI1]; simp [z_u]
      have c1 : I1 38 1 = nI p := by rw [eI1]; simp [z_u]
      have c2 : I1 38 2 = nI D := by rw [eI1]; simp [z_u]
      have c3 : I1 38 3 = nI (2 ^ p) := by rw [eI1, ← sh_1 p (by omega)]; simp [z_u]
      have c4 : I1 38 4 = 0 := by rw [eI1]; simp [z_u]
      have hf1 : CFn I0 R0 I1 R := hz.trans ⟨fun p k h _ => f1 p k h, fun _ _ _ => rfl⟩
      refine k_aload f90_66 rfl ?_
      refine k_getr (q := 43) f90_67 hS.o0 rfl hR.r0_11 ?_
      refine k_aload f90_70 rfl ?_
      refine k_aload f90_71 rfl ?_
      refine k_getr (q := 38) f90_72 hS.o0 rfl hR.r0_8 ?_
      refine k_aload f90_75 rfl ?_
      refine k_getr (q := 17) f90_76 hS.o0 rfl hR.r0_5 ?_
      refine k_getr (q := pl) f90_79 hS.o17 rfl hst.2.1 ?_
      refine k_gI (w := s 1) f90_82 hst.2.2.1.2.1 rfl ((f1 _ _ (by have := hst.2.2.1.1; omega)).trans en) ?_
      refine k_iload f90_85 rfl ?_
      refine k_callv (as := [.int (nI D), .int (s 1), .ref 38, .ref r]) (rest := []) f90_87 hS.o43 rfl rfl rfl rfl (q_lay1 (q := 38) (fo := s 6) (n := cl (s 1)) (m := cl (s 2)) (h := 2 ^ p) (p := p) hR hS (hf1.st hst0 (by omega)) hO.2.1.1 (by omega) hO.mw (by omega) hO.1.2 (hf1.br hbr0) hS.o38 (Or.inl rfl) c0 c1 c2 c3 c4 (p_1024 hp)) ?_
      rintro _ _ ⟨rfl, I2, J2, rfl, hw2, hf2, hl2, hy2, hn2⟩
      obtain ⟨R2, eR2⟩ : ∃ R2, R2 = z_u (z_u R 43 2 (some r)) 43 3 (some 38) := ⟨_, rfl⟩
      rw [← eR2] at hw2 ⊢
      have hR2 : Rs R2 := eR2 ▸ rs43 hS hR _ _
      have ebb : baB I1 (s 6) = baB I0 (s 6) := funext fun w => baB_kr hf1.kr _ w
      have nh : ¬ hoN (baB I1 (s 6)) s (cl (s 1)) (s 1) 1 (nI D) (nI D) 0 p (2 ^ p) := fun k => k.2.1 rfl
      have hl : LD (baB I0 (s 6)) I2 R2 G pl 38 s (cl (s 1)) (cl (s 2)) (some r) (s 6) (s 1) 1 (nI D) (nI D) 0 p (2 ^ p) := ⟨hw2, ebb ▸ hl2, by rw [hn2 nh, bI_v0 (fun k => (hoB_iff.mp k).2.1 rfl)], by rw [eR2, z_u_k _ _ _ (by omega), z_u_same], by rw [eR2, z_u_same]⟩
      have hf3 : CFn I0 R0 I2 R2 := hf1.trans ⟨fun p k h1 h2 => hf2 p k (by omega) (by omega), fun p k h => by rw [eR2, z_u_no _ _ (by omega), z_u_no _ _ (by omega)]⟩
      refine k_aload f90_90 rfl ?_
      refine k_getr (q := 43) f90_91 hS.o0 rfl hR2.r0_11 ?_
      refine k_iconst (v := 0) f90_94 rfl ?_
      refine k_callv (as := [.int (0)]) (rest := []) f90_95 hS.o43 rfl rfl rfl rfl (q_lost (g := 0) (q := 38) hR2 hS hO.2.1.1 (by omega) hO.mw (by omega) hO.1.2 hS.o38 (Or.inl rfl) hp (by omega) hl) ?_
      rintro _ _ ⟨rfl, I3, rfl, h9, hf4⟩
      have hf5 : CFn I0 R0 I3 R2 := hf3.trans ⟨fun p k _ h => hf4 p k (by omega), fun _ _ _ => rfl⟩
      refine k_beq f90_98 (fun h_ => absurd (hL) h_) (fun _ => ?_)
      refine k_iload f90_101 rfl ?_
      exact k_iret f90_103 rfl ⟨by rw [show nvF I0 s p (f + 1) D = nI D from if_pos hL.2], I3, J2, R2, rfl, hf5⟩
    · refine k_iload f90_37 rfl ?_
      refine k_iload f90_39 rfl ?_
      refine k_ic_ge f90_40 (fun h_ => absurd h_ (nI_ge hin (by omega))) (fun _ => ?_)
      refine k_aload f90_43 rfl ?_
      refine k_getr (q := 17) f90_44 hS.o0 rfl hR.r0_5 ?_
      refine k_gI (w := nI (cl (s 3))) f90_47 hS.o17 rfl ed ?_
      refine k_iload f90_50 rfl ?_
      refine k_iadd f90_52 ?_
      rw [nI_add, ← eD]
      refine k_istore (L' := [.ref 0, .int (nI p), .int (nI N), .ref r, .int (nI i), .int (nI D)]) f90_53 rfl rfl ?_
      refine k_aload f90_55 rfl ?_
      refine k_getr (q := 38) f90_56 hS.o0 rfl hR.r0_8 ?_
      refine k_iconst (v := 1) f90_59 rfl ?_
      refine k_iload f90_60 rfl ?_
      refine k_iload f90_61 rfl ?_
      refine e_v (as := [.int (nI D), .int (nI p), .int (1)]) (rest := []) f90_63 hS.o38 rfl rfl rfl (s_cnBegin (q := 38) (p := p) (wo := 1) (dy := nI D) hS.o38) ?_
      obtain ⟨I1, eI1⟩ : ∃ I1, I1 = z_u (z_u (z_u (z_u (z_u (z_u (z_u I 38 0 1) 38 1 (nI p)) 38 5 0) 38 6 (-1)) 38 2 (nI D)) 38 3 ((1) <<< ((nI p) &&& 31))) 38 4 0 := ⟨_, rfl⟩
      rw [← eI1]
      have f1 : ∀ p k, p ≠ 38 → I1 p k = I p k := fun p k h => by rw [eI1]; repeat rw [z_u_p _ _ _ _ h]
      have c0 : I1 38 0 = 1 := by rw [eI1]; simp [z_u]
      have c1 : I1 38 1 = nI p := by rw [eI1]; simp [z_u]
      have c2 : I1 38 2 = nI D := by rw [eI1]; simp [z_u]
      have c3 : I1 38 3 = nI (2 ^ p) := by rw [eI1, ← sh_1 p (by omega)]; simp [z_u]
      have c4 : I1 38 4 = 0 := by rw [eI1]; simp [z_u]
      have hf1 : CFn I0 R0 I1 R := hz.trans ⟨fun p k h _ => f1 p k h, fun _ _ _ => rfl⟩
      refine k_aload f90_66 rfl ?_
      refine k_getr (q := 43) f90_67 hS.o0 rfl hR.r0_11 ?_
      refine k_aload f90_70 rfl ?_
      refine k_aload f90_71 rfl ?_
      refine k_getr (q := 38) f90_72 hS.o0 rfl hR.r0_8 ?_
      refine k_aload f90_75 rfl ?_
      refine k_getr (q := 17) f90_76 hS.o0 rfl hR.r0_5 ?_
      refine k_getr (q := pl) f90_79 hS.o17 rfl hst.2.1 ?_
      refine k_gI (w := s 1) f90_82 hst.2.2.1.2.1 rfl ((f1 _ _ (by have := hst.2.2.1.1; omega)).trans en) ?_
      refine k_iload f90_85 rfl ?_
      refine k_callv (as := [.int (nI D), .int (s 1), .ref 38, .ref r]) (rest := []) f90_87 hS.o43 rfl rfl rfl rfl (q_lay1 (q := 38) (fo := s 6) (n := cl (s 1)) (m := cl (s 2)) (h := 2 ^ p) (p := p) hR hS (hf1.st hst0 (by omega)) hO.2.1.1 (by omega) hO.mw (by omega) hO.1.2 (hf1.br hbr0) hS.o38 (Or.inl rfl) c0 c1 c2 c3 c4 (p_1024 hp)) ?_
      rintro _ _ ⟨rfl, I2, J2, rfl, hw2, hf2, hl2, hy2, hn2⟩
      obtain ⟨R2, eR2⟩ : ∃ R2, R2 = z_u (z_u R 43 2 (some r)) 43 3 (some 38) := ⟨_, rfl⟩
      rw [← eR2] at hw2 ⊢
      have hR2 : Rs R2 := eR2 ▸ rs43 hS hR _ _
      have ebb : baB I1 (s 6) = baB I0 (s 6) := funext fun w => baB_kr hf1.kr _ w
      have nh : ¬ hoN (baB I1 (s 6)) s (cl (s 1)) (s 1) 1 (nI D) (nI D) 0 p (2 ^ p) := fun k => k.2.1 rfl
      have hl : LD (baB I0 (s 6)) I2 R2 G pl 38 s (cl (s 1)) (cl (s 2)) (some r) (s 6) (s 1) 1 (nI D) (nI D) 0 p (2 ^ p) := ⟨hw2, ebb ▸ hl2, by rw [hn2 nh, bI_v0 (fun k => (hoB_iff.mp k).2.1 rfl)], by rw [eR2, z_u_k _ _ _ (by omega), z_u_same], by rw [eR2, z_u_same]⟩
      have hf3 : CFn I0 R0 I2 R2 := hf1.trans ⟨fun p k h1 h2 => hf2 p k (by omega) (by omega), fun p k h => by rw [eR2, z_u_no _ _ (by omega), z_u_no _ _ (by omega)]⟩
      refine k_aload f90_90 rfl ?_
      refine k_getr (q := 43) f90_91 hS.o0 rfl hR2.r0_11 ?_
      refine k_iconst (v := 0) f90_94 rfl ?_
      refine k_callv (as := [.int (0)]) (rest := []) f90_95 hS.o43 rfl rfl rfl rfl (q_lost (g := 0) (q := 38) hR2 hS hO.2.1.1 (by omega) hO.mw (by omega) hO.1.2 hS.o38 (Or.inl rfl) hp (by omega) hl) ?_
      rintro _ _ ⟨rfl, I3, rfl, h9, hf4⟩
      have hf5 : CFn I0 R0 I3 R2 := hf3.trans ⟨fun p k _ h => hf4 p k (by omega), fun _ _ _ => rfl⟩
      refine k_beq f90_98 (fun _ => ?_) (fun h_ => (absurd h_ (hL)))
      refine k_iinc (w := nI (i + 1)) (L' := [.ref 0, .int (nI p), .int (nI N), .ref r, .int (nI (i + 1)), .int (nI D)]) f90_104 rfl (nI_1 i) rfl rfl ?_
      refine k_goto f90_107 ?_
      rw [show nvF I0 s p (f + 1) D = nvF I0 s p f (D + 1) from if_neg (fun q => hL ⟨gd, q⟩), show D + 1 = cl (s 3) + (i + 1) by omega]
      exact ih (i + 1) I3 J2 R2 _ (by omega) hf5
