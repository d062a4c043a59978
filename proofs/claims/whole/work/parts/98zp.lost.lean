/-! LOST. -/
theorem fdL_c {w1 w2 : Nat → Nat} {s : Nat → Int32} {g : Nat} : ∀ {l : List Nat} {r : Nat}, (∀ j, j ∈ l → 0 ≤ s (56 + 3 * j)) → (fdL w1 w2 s g l r).1 = -2 ∨ 0 ≤ (fdL w1 w2 s g l r).1 := by
  intro l
  induction l with
  | nil => intro r _; exact Or.inl rfl
  | cons j l ih =>
    intro r h
    have hl := fun k hk => h k (List.mem_cons_of_mem j hk)
    rw [fdL]
    split
    · exact ih hl
    · split
      · exact Or.inr (h j List.mem_cons_self)
      · exact ih hl
theorem FD_c {ba : (Nat → Int64) → Bool} {s : Nat → Int32} {n m : Nat} {nu wo sp fr fe : Int32} {p h g : Nat} (hm : MD s m) (hfr : 0 ≤ fr) : (FD ba s n m nu wo sp fr fe p h g).1 = -2 ∨ 0 ≤ (FD ba s n m nu wo sp fr fe p h g).1 := by
  unfold FD
  split
  · exact Or.inr hfr
  · unfold FDc
    rw [fdC_L (w1 := fun j => wyV ba s n nu wo sp fr h (mA s j) (mB s j) (s (56 + 3 * j))) (w2 := fun j => wyV ba s n nu wo sp fr h (mB s j) (mA s j) (s (56 + 3 * j))) (s := s) (g := g) (m := m) m 0 (2 ^ p) (by omega)]
    exact fdL_c fun j hj => rg_0le (hm j (ordL_mem (List.mem_reverse.mp (List.mem_of_mem_drop hj)))).1 (by omega)
theorem FDk_c {b : Nat → Nat → Int32} {s : Nat → Int32} {rn c g : Nat} (h : SOk s rn) : (FDk b s c g).1 = -2 ∨ 0 ≤ (FDk b s c g).1 := FD_c h.md (rg_0le h.2.2.2.1 (by omega))
theorem FDk_n {b : Nat → Nat → Int32} {s : Nat → Int32} {rn c g : Nat} (h : SOk s rn) : ¬ 0 ≤ (FDk b s c g).1 ↔ (FDk b s c g).1 = -2 := ⟨fun q => (FDk_c h).resolve_right q, fun q => by rw [q]; decide⟩
def fL (b : Nat → Nat → Int32) (s : Nat → Int32) (g c : Nat) (a : Int32) : Int32 := if s 3 - s (8 + 6 * c + 2) ≤ s 7 ∧ (FDk b s c g).1 = -2 then a ||| ((1 : Int32) <<< (nI c &&& 31)) else a
theorem RF2.kr {I0 I : Nat → Nat → Int32} (h : RF2 I0 I) : Kr I0 I := fun p k hp => h p k (by omega) (by omega)
theorem RF2.trans {I0 I1 I2 : Nat → Nat → Int32} (h : RF2 I0 I1) (g : RF2 I1 I2) : RF2 I0 I2 := fun p k q1 q2 => (g p k q1 q2).trans (h p k q1 q2)
theorem lp_lostC {x : Nat × (Nat → Int32)} {d : Nat} {G : zG} {I0 : Nat → Nat → Int32} {R0 : Nat → Nat → Option Nat} {s : Nat → Int32} {pl : Nat} (hR0 : Rs R0) (hS : Sh G) (hst0 : StR I0 R0 G 17 pl s) (hO : SOk s (cl (I0 0 4))) (hA0 : RuA I0 R0 G) : ∀ (f i : Nat) (I : Nat → Nat → Int32) (J : Nat → Nat → Int64) (R : Nat → Nat → Option Nat), i + f = cl (s 1) → CFr I0 R0 I R → zOk x (d + 7) 86 13 [.ref 0, .int (acc (fL I0 s 0) i), .int (nI i)] [] (I, J, R, G) (fun v mm => v = some (.int (acc (fL I0 s 0) (cl (s 1)))) ∧ ∃ I' J' R', mm = (I', J', R', G) ∧ CFr I0 R0 I' R') := by
  intro f
  induction f with
  | zero =>
    intro i I J R hi hz
    have hn9 := hO.2.1.2
    have hR := hz.rs hS hR0
    have hst := hz.st hst0 (by omega)
    have hA := hz.ra hA0
    have hO1 : SOk s (cl (I 0 4)) := by rw [hz.1 0 4 (by omega)]; exact hO
    have kr := hz.kr
    have en : I pl 2 = nI (cl (s 1)) := hst.2.2.2.1.2.2.1.trans hO.2.1.1
    refine k_iload f86_13 rfl ?_
    refine k_aload f86_14 rfl ?_
    refine k_getr (q := 17) f86_15 hS.o0 rfl hR.r0_5 ?_
    refine k_getr (q := pl) f86_18 hS.o17 rfl hst.2.1 ?_
    refine k_gI (w := nI (cl (s 1))) f86_21 hst.2.2.1.2.1 rfl en ?_
    refine k_ic_ge f86_24 (fun _ => ?_) (fun h_ => absurd (nI_le (by omega) (by omega)) h_)
    refine k_iload f86_55 rfl ?_
    exact k_iret f86_56 rfl ⟨by rw [show i = cl (s 1) by omega], I, J, R, rfl, hz⟩
  | succ f ih =>
    intro i I J R hi hz
    have hn9 := hO.2.1.2
    have hR := hz.rs hS hR0
    have hst := hz.st hst0 (by omega)
    have hA := hz.ra hA0
    have hO1 : SOk s (cl (I 0 4)) := by rw [hz.1 0 4 (by omega)]; exact hO
    have kr := hz.kr
    have en : I pl 2 = nI (cl (s 1)) := hst.2.2.2.1.2.2.1.trans hO.2.1.1
    have hin : i < cl (s 1) := by omega
    by_cases hL : s 3 - s (8 + 6 * i + 2) ≤ s 7 ∧ (FDk I0 s i 0).1 = -2
    · refine k_iload f86_13 rfl ?_
      refine k_aload f86_14 rfl ?_
      refine k_getr (q := 17) f86_15 hS.o0 rfl hR.r0_5 ?_
      refine k_getr (q := pl) f86_18 hS.o17 rfl hst.2.1 ?_
      refine k_gI (w := nI (cl (s 1))) f86_21 hst.2.2.1.2.1 rfl en ?_
      refine k_ic_ge f86_24 (fun h_ => absurd h_ (nI_ge hin (by omega))) (fun _ => ?_)
      refine k_aload f86_27 rfl ?_
      refine k_iload f86_28 rfl ?_
      refine k_callv (as := [.int (nI i)]) (rest := []) f86_29 hS.o0 rfl rfl rfl rfl (q_layWays (c := i) hR hS hst hO1 hA hin) ?_
      rintro _ _ ⟨rfl, I1, J1, R1, bo, rfl, hl1, hc1⟩
      have hR1 : Rs R1 := hc1.rs hS hR
      refine k_aload f86_32 rfl ?_
      refine k_getr (q := 43) f86_33 hS.o0 rfl hR1.r0_11 ?_
      refine k_iconst (v := 0) f86_36 rfl ?_
      refine k_callv (as := [.int (0)]) (rest := []) f86_37 hS.o43 rfl rfl rfl rfl (q_lostC (g := 0) hR1 hS hO hin (by omega) hl1) ?_
      rintro _ _ ⟨rfl, I2, rfl, h9, hf2⟩
      rw [FDk_kr kr] at h9 ⊢
      have hc2 : CFr I0 R0 I2 R1 := hz.trans (hc1.trans ⟨fun p k hp => hf2 p k (by omega), fun _ _ _ => rfl⟩)
      refine k_beq f86_40 (fun h_ => absurd (hL) h_) (fun _ => ?_)
      refine k_iload f86_43 rfl ?_
      refine k_iconst (v := 1) f86_44 rfl ?_
      refine k_iload f86_45 rfl ?_
      refine k_ishl f86_46 ?_
      refine k_ior f86_47 ?_
      refine k_istore (L' := [.ref 0, .int ((acc (fL I0 s 0) i) ||| ((1) <<< ((nI i) &&& 31))), .int (nI i)]) f86_48 rfl rfl ?_
      refine k_iinc (w := nI (i + 1)) (L' := [.ref 0, .int ((acc (fL I0 s 0) i) ||| ((1) <<< ((nI i) &&& 31))), .int (nI (i + 1))]) f86_49 rfl (nI_1 i) rfl rfl ?_
      refine k_goto f86_52 ?_
      rw [show ((acc (fL I0 s 0) i) ||| ((1) <<< ((nI i) &&& 31))) = acc (fL I0 s 0) (i + 1) from by rw [acc_s, fL, if_pos hL]]
      exact ih (i + 1) I2 J1 R1 (by omega) hc2
    · refine k_iload f86_13 rfl ?_
      refine k_aload f86_14 rfl ?_
      refine k_getr (q := 17) f86_15 hS.o0 rfl hR.r0_5 ?_
      refine k_getr (q := pl) f86_18 hS.o17 rfl hst.2.1 ?_
      refine k_gI (w := nI (cl (s 1))) f86_21 hst.2.2.1.2.1 rfl en ?_
      refine k_ic_ge f86_24 (fun h_ => absurd h_ (nI_ge hin (by omega))) (fun _ => ?_)
      refine k_aload f86_27 rfl ?_
      refine k_iload f86_28 rfl ?_
      refine k_callv (as := [.int (nI i)]) (rest := []) f86_29 hS.o0 rfl rfl rfl rfl (q_layWays (c := i) hR hS hst hO1 hA hin) ?_
      rintro _ _ ⟨rfl, I1, J1, R1, bo, rfl, hl1, hc1⟩
      have hR1 : Rs R1 := hc1.rs hS hR
      refine k_aload f86_32 rfl ?_
      refine k_getr (q := 43) f86_33 hS.o0 rfl hR1.r0_11 ?_
      refine k_iconst (v := 0) f86_36 rfl ?_
      refine k_callv (as := [.int (0)]) (rest := []) f86_37 hS.o43 rfl rfl rfl rfl (q_lostC (g := 0) hR1 hS hO hin (by omega) hl1) ?_
      rintro _ _ ⟨rfl, I2, rfl, h9, hf2⟩
      rw [FDk_kr kr] at h9 ⊢
      have hc2 : CFr I0 R0 I2 R1 := hz.trans (hc1.trans ⟨fun p k hp => hf2 p k (by omega), fun _ _ _ => rfl⟩)
      refine k_beq f86_40 (fun _ => ?_) (fun h_ => (absurd h_ (hL)))
      refine k_iinc (w := nI (i + 1)) (L' := [.ref 0, .int (acc (fL I0 s 0) i), .int (nI (i + 1))]) f86_49 rfl (nI_1 i) rfl rfl ?_
      refine k_goto f86_52 ?_
      rw [show (acc (fL I0 s 0) i) = acc (fL I0 s 0) (i + 1) from by rw [acc_s, fL, if_neg hL]]
      exact ih (i + 1) I2 J1 R1 (by omega) hc2
theorem lp_lostM {x : Nat × (Nat → Int32)} {d : Nat} {G : zG} {I0 : Nat → Nat → Int32} {R : Nat → Nat → Option Nat} {s : Nat → Int32} {g : Nat} (hR : Rs R) (hS : Sh G) (hs0 : I0 62 = s) (hO : SOk s (cl (I0 0 4))) (hA0 : RuA I0 R G) (hg : g < 2 ^ 31) : ∀ (f i : Nat) (I : Nat → Nat → Int32) (J : Nat → Nat → Int64), i + f = cl (s 1) → RF2 I0 I → zOk x (d + 7) 189 4 [.ref 51, .int (nI g), .int (acc (fL I0 s g) i), .int (nI i)] [] (I, J, R, G) (fun v mm => v = some (.int (acc (fL I0 s g) (cl (s 1)))) ∧ ∃ I' J', mm = (I', J', R, G) ∧ RF2 I0 I') := by
  intro f
  induction f with
  | zero =>
    intro i I J hi hz
    have hn9 := hO.2.1.2
    have hs : I 62 = s := (funext fun k => hz 62 k (by omega) (by omega)).trans hs0
    have kr := hz.kr
    have hA := hA0.kr kr
    have hO1 : SOk s (cl (I 0 4)) := by rw [kr 0 4 (by omega)]; exact hO
    refine k_iload f189_4 rfl ?_
    refine k_aload f189_5 rfl ?_
    refine k_getr (q := 62) f189_6 hS.o51 rfl hR.r51_25 ?_
    refine k_iconst (v := 1) f189_9 rfl ?_
    refine k_ia (k := 1) (w := nI (cl (s 1))) f189_10 hS.a62 rfl (by decide) (by decide) ((congrFun hs 1).trans hO.2.1.1) ?_
    refine k_ic_ge f189_11 (fun _ => ?_) (fun h_ => absurd (nI_le (by omega) (by omega)) h_)
    refine k_iload f189_51 rfl ?_
    exact k_iret f189_52 rfl ⟨by rw [show i = cl (s 1) by omega], I, J, rfl, hz⟩
  | succ f ih =>
    intro i I J hi hz
    have hn9 := hO.2.1.2
    have hs : I 62 = s := (funext fun k => hz 62 k (by omega) (by omega)).trans hs0
    have kr := hz.kr
    have hA := hA0.kr kr
    have hO1 : SOk s (cl (I 0 4)) := by rw [kr 0 4 (by omega)]; exact hO
    have hin : i < cl (s 1) := by omega
    have he := sek (b := I0) (g := g) hO hin
    have hn := FDk_n (b := I0) (c := i) (g := g) hO
    by_cases hd : 0 ≤ (FDk I0 s i g).1
    · refine k_iload f189_4 rfl ?_
      refine k_aload f189_5 rfl ?_
      refine k_getr (q := 62) f189_6 hS.o51 rfl hR.r51_25 ?_
      refine k_iconst (v := 1) f189_9 rfl ?_
      refine k_ia (k := 1) (w := nI (cl (s 1))) f189_10 hS.a62 rfl (by decide) (by decide) ((congrFun hs 1).trans hO.2.1.1) ?_
      refine k_ic_ge f189_11 (fun h_ => absurd h_ (nI_ge hin (by omega))) (fun _ => ?_)
      refine k_aload f189_14 rfl ?_
      refine k_iload f189_15 rfl ?_
      refine k_iload f189_16 rfl ?_
      refine k_callv (as := [.int (nI g), .int (nI i)]) (rest := []) f189_17 hS.o51 rfl rfl rfl rfl (q_sFor (c := i) (g := g) (s := s) hR hS hs hO1 hA hin hg) ?_
      rintro _ _ ⟨rfl, I1, J1, rfl, hz1, hf1⟩
      rw [SEk_kr kr] at hz1
      have hz2 : RF2 I0 I1 := hz.trans hf1
      have hs1 : I1 62 = s := (funext fun k => hz2 62 k (by omega) (by omega)).trans hs0
      refine k_iload f189_20 rfl ?_
      refine k_aload f189_21 rfl ?_
      refine k_gI (w := (FDk I0 s i g).1) f189_22 hS.o51 rfl (hz1.2.2.2.1.trans he.1) ?_
      refine k_if_ge f189_25 (fun _ => ?_) (fun h_ => absurd (hd) h_)
      refine k_iconst (v := 0) f189_42 rfl ?_
      refine k_ior f189_43 ?_
      refine k_istore (L' := [.ref 51, .int (nI g), .int ((acc (fL I0 s g) i) ||| (0)), .int (nI i)]) f189_44 rfl rfl ?_
      refine k_iinc (w := nI (i + 1)) (L' := [.ref 51, .int (nI g), .int ((acc (fL I0 s g) i) ||| (0)), .int (nI (i + 1))]) f189_45 rfl (nI_1 i) rfl rfl ?_
      refine k_goto f189_48 ?_
      rw [show ((acc (fL I0 s g) i) ||| (0)) = acc (fL I0 s g) (i + 1) from by rw [or_0, acc_s, fL, if_neg (fun q => hn.mpr q.2 hd)]]
      exact ih (i + 1) I1 J1 (by omega) hz2
    · by_cases hv : ¬ s 3 - s (8 + 6 * i + 2) ≤ s 7
      · refine k_iload f189_4 rfl ?_
        refine k_aload f189_5 rfl ?_
        refine k_getr (q := 62) f189_6 hS.o51 rfl hR.r51_25 ?_
        refine k_iconst (v := 1) f189_9 rfl ?_
        refine k_ia (k := 1) (w := nI (cl (s 1))) f189_10 hS.a62 rfl (by decide) (by decide) ((congrFun hs 1).trans hO.2.1.1) ?_
        refine k_ic_ge f189_11 (fun h_ => absurd h_ (nI_ge hin (by omega))) (fun _ => ?_)
        refine k_aload f189_14 rfl ?_
        refine k_iload f189_15 rfl ?_
        refine k_iload f189_16 rfl ?_
        refine k_callv (as := [.int (nI g), .int (nI i)]) (rest := []) f189_17 hS.o51 rfl rfl rfl rfl (q_sFor (c := i) (g := g) (s := s) hR hS hs hO1 hA hin hg) ?_
        rintro _ _ ⟨rfl, I1, J1, rfl, hz1, hf1⟩
        rw [SEk_kr kr] at hz1
        have hz2 : RF2 I0 I1 := hz.trans hf1
        have hs1 : I1 62 = s := (funext fun k => hz2 62 k (by omega) (by omega)).trans hs0
        refine k_iload f189_20 rfl ?_
        refine k_aload f189_21 rfl ?_
        refine k_gI (w := (FDk I0 s i g).1) f189_22 hS.o51 rfl (hz1.2.2.2.1.trans he.1) ?_
        refine k_if_ge f189_25 (fun h_ => absurd h_ (hd)) (fun _ => ?_)
        refine k_aload f189_28 rfl ?_
        refine k_iload f189_29 rfl ?_
        refine e_v (as := [.int (nI i)]) (rest := [.int (acc (fL I0 s g) i)]) f189_30 hS.o51 rfl rfl rfl (s_isVoidM (c := i) hR hS hs1 (by omega)) ?_
        refine k_bne f189_33 (fun _ => ?_) (fun h_ => absurd (hv) h_)
        refine k_iconst (v := 0) f189_42 rfl ?_
        refine k_ior f189_43 ?_
        refine k_istore (L' := [.ref 51, .int (nI g), .int ((acc (fL I0 s g) i) ||| (0)), .int (nI i)]) f189_44 rfl rfl ?_
        refine k_iinc (w := nI (i + 1)) (L' := [.ref 51, .int (nI g), .int ((acc (fL I0 s g) i) ||| (0)), .int (nI (i + 1))]) f189_45 rfl (nI_1 i) rfl rfl ?_
        refine k_goto f189_48 ?_
        rw [show ((acc (fL I0 s g) i) ||| (0)) = acc (fL I0 s g) (i + 1) from by rw [or_0, acc_s, fL, if_neg (fun q => hv q.1)]]
        exact ih (i + 1) I1 J1 (by omega) hz2
      · refine k_iload f189_4 rfl ?_
        refine k_aload f189_5 rfl ?_
        refine k_getr (q := 62) f189_6 hS.o51 rfl hR.r51_25 ?_
        refine k_iconst (v := 1) f189_9 rfl ?_
        refine k_ia (k := 1) (w := nI (cl (s 1))) f189_10 hS.a62 rfl (by decide) (by decide) ((congrFun hs 1).trans hO.2.1.1) ?_
        refine k_ic_ge f189_11 (fun h_ => absurd h_ (nI_ge hin (by omega))) (fun _ => ?_)
        refine k_aload f189_14 rfl ?_
        refine k_iload f189_15 rfl ?_
        refine k_iload f189_16 rfl ?_
        refine k_callv (as := [.int (nI g), .int (nI i)]) (rest := []) f189_17 hS.o51 rfl rfl rfl rfl (q_sFor (c := i) (g := g) (s := s) hR hS hs hO1 hA hin hg) ?_
        rintro _ _ ⟨rfl, I1, J1, rfl, hz1, hf1⟩
        rw [SEk_kr kr] at hz1
        have hz2 : RF2 I0 I1 := hz.trans hf1
        have hs1 : I1 62 = s := (funext fun k => hz2 62 k (by omega) (by omega)).trans hs0
        refine k_iload f189_20 rfl ?_
        refine k_aload f189_21 rfl ?_
        refine k_gI (w := (FDk I0 s i g).1) f189_22 hS.o51 rfl (hz1.2.2.2.1.trans he.1) ?_
        refine k_if_ge f189_25 (fun h_ => absurd h_ (hd)) (fun _ => ?_)
        refine k_aload f189_28 rfl ?_
        refine k_iload f189_29 rfl ?_
        refine e_v (as := [.int (nI i)]) (rest := [.int (acc (fL I0 s g) i)]) f189_30 hS.o51 rfl rfl rfl (s_isVoidM (c := i) hR hS hs1 (by omega)) ?_
        refine k_bne f189_33 (fun h_ => absurd h_ (hv)) (fun _ => ?_)
        refine k_iconst (v := 1) f189_36 rfl ?_
        refine k_iload f189_37 rfl ?_
        refine k_ishl f189_38 ?_
        refine k_goto f189_39 ?_
        refine k_ior f189_43 ?_
        refine k_istore (L' := [.ref 51, .int (nI g), .int ((acc (fL I0 s g) i) ||| ((1) <<< ((nI i) &&& 31))), .int (nI i)]) f189_44 rfl rfl ?_
        refine k_iinc (w := nI (i + 1)) (L' := [.ref 51, .int (nI g), .int ((acc (fL I0 s g) i) ||| ((1) <<< ((nI i) &&& 31))), .int (nI (i + 1))]) f189_45 rfl (nI_1 i) rfl rfl ?_
        refine k_goto f189_48 ?_
        rw [show ((acc (fL I0 s g) i) ||| ((1) <<< ((nI i) &&& 31))) = acc (fL I0 s g) (i + 1) from by rw [acc_s, fL, if_pos ⟨Classical.not_not.mp hv, hn.mp hd⟩]]
        exact ih (i + 1) I1 J1 (by omega) hz2
theorem q_lostOnes {x : Nat × (Nat → Int32)} {d : Nat} {I : Nat → Nat → Int32} {J : Nat → Nat → Int64} {R : Nat → Nat → Option Nat} {G : zG} {s : Nat → Int32} {g : Nat} (hR : Rs R) (hS : Sh G) (hs : I 62 = s) (hO : SOk s (cl (I 0 4))) (hA : RuA I R G) (hg : g < 2 ^ 31) : zOk x (d + 7) 189 0 [.ref 51, .int (nI g), zU, zU] [] (I, J, R, G) (fun v mm => v = some (.int (acc (fL I s g) (cl (s 1)))) ∧ ∃ I' J', mm = (I', J', R, G) ∧ RF2 I I') := by
  refine k_iconst (v := 0) f189_0 rfl ?_
  refine k_istore (L' := [.ref 51, .int (nI g), .int (0), zU]) f189_1 rfl rfl ?_
  refine k_iconst (v := 0) f189_2 rfl ?_
  refine k_istore (L' := [.ref 51, .int (nI g), .int (0), .int (0)]) f189_3 rfl rfl ?_
  exact lp_lostM hR hS hs hO hA hg (cl (s 1)) 0 I J (by omega) (fun _ _ _ _ => rfl)
theorem op_lost {x : Nat × (Nat → Int32)} : Op Inv x 86 190 [] := by
  refine Op.of2 fun j I J R G hj hI => ?_
  have hS : Sh G := hI.1
  have hR : Rs R := hI.2.1
  have hT1 : Rg (I 9 1) 401 := hI.2.2.2.2.1.1
  have hT2 : I 51 1 = I 9 1 := hI.2.2.2.2.1.2.1
  have hN1 : Rg (I 0 4) 7 := hI.2.2.2.2.2.1.1
  have hN2 : I 51 2 = I 0 4 := hI.2.2.2.2.2.1.2.1
  have hN3 : ∀ t, t < cl (I 0 4) → ∃ r, R 16 t = some r ∧ RuR I R G t r := hI.2.2.2.2.2.1.2.2
  obtain ⟨pl, hst⟩ : ∃ pl, StR I R G 17 pl (I 62) := hI.2.2.2.2.2.2.1
  have hO : SOk (I 62) (cl (I 0 4)) := hI.2.2.2.2.2.2.2.1
  by_cases hT : ¬ I 62 0 ≤ 0
  · show zOk x 399 86 0 [.ref 0, zU, zU] [] _ _
    refine k_aload f86_0 rfl ?_
    refine e_v (as := []) (rest := []) f86_1 hS.o0 rfl rfl rfl (s_hasTown hR hS hst) ?_
    refine k_bne f86_4 (fun _ => ?_) (fun h_ => absurd (hT) h_)
    refine k_iconst (v := 0) f86_9 rfl ?_
    refine k_istore (L' := [.ref 0, .int (0), zU]) f86_10 rfl rfl ?_
    refine k_iconst (v := 0) f86_11 rfl ?_
    refine k_istore (L' := [.ref 0, .int (0), .int (0)]) f86_12 rfl rfl ?_
    refine zOk.imp (lp_lostC (d := 392) hR hS hst hO ⟨hN1, hN3⟩ (cl (I 62 1)) 0 I J R (by omega) CFr.rfl) ?_
    rintro _ _ ⟨rfl, I2, J2, R2, rfl, hc2⟩
    refine ⟨_, rfl, ?_⟩
    have hR2 : Rs R2 := hc2.rs hS hR
    have hs2 : I2 62 = I 62 := funext fun k => hc2.1 62 k (by omega)
    show zOk x 399 190 0 [.ref 51] [] _ _
    refine k_aload f190_0 rfl ?_
    refine k_getr (q := 62) f190_1 hS.o51 rfl hR2.r51_25 ?_
    refine k_iconst (v := 0) f190_4 rfl ?_
    refine k_ia (k := 0) (w := I 62 0) f190_5 hS.a62 rfl (by decide) (by decide) (congrFun hs2 0) ?_
    refine k_if_ne f190_6 (fun _ => ?_) (fun h_ => absurd ((fun e => hT (by rw [e]; decide))) h_)
    refine k_aload f190_13 rfl ?_
    refine k_iconst (v := 0) f190_14 rfl ?_
    refine k_callv (as := [.int (0)]) (rest := []) f190_15 hS.o51 rfl rfl rfl rfl (q_lostOnes (g := 0) (s := I 62) hR2 hS hs2 (by rw [hc2.1 0 4 (by omega)]; exact hO) (hc2.ra ⟨hN1, hN3⟩) (by omega)) ?_
    rintro _ _ ⟨rfl, I3, J3, rfl, hf3⟩
    rw [show fL I2 (I 62) 0 = fL I (I 62) 0 from funext fun c => funext fun a => by unfold fL; rw [FDk_kr hc2.kr]]
    exact k_iret f190_18 rfl ⟨rfl, inv_se hI hc2 hf3⟩
  · show zOk x 399 86 0 [.ref 0, zU, zU] [] _ _
    refine k_aload f86_0 rfl ?_
    refine e_v (as := []) (rest := []) f86_1 hS.o0 rfl rfl rfl (s_hasTown hR hS hst) ?_
    refine k_bne f86_4 (fun h_ => absurd h_ (hT)) (fun _ => ?_)
    refine k_iconst (v := (-1)) f86_7 rfl ?_
    refine k_iret f86_8 rfl ⟨_, rfl, ?_⟩
    show zOk x 399 190 0 [.ref 51] [] _ _
    refine k_aload f190_0 rfl ?_
    refine k_getr (q := 62) f190_1 hS.o51 rfl hR.r51_25 ?_
    refine k_iconst (v := 0) f190_4 rfl ?_
    refine k_ia (k := 0) (w := I 62 0) f190_5 hS.a62 rfl (by decide) (by decide) rfl ?_
    refine k_if_ne f190_6 (fun h_ => absurd (so_z hO.1 (by omega) hT) h_) (fun _ => ?_)
    refine k_iconst (v := (-1)) f190_9 rfl ?_
    refine k_goto f190_10 ?_
    refine k_iret f190_18 rfl ⟨rfl, ?_⟩
    exact inv_q hI (by omega) Kq.rfl KS.rfl
