/-! feed, whole. -/
theorem ad5 (p q : Nat) (I : Nat → Nat → Int32) (n : Nat) (a b c d e : Int32) (f : Int32 → List Int32) (hf : ∀ v, (f v).length = 4) : adL p q (adL p q (adL p q (adL p q (adL p q I n (f a)) (n + 4) (f b)) (n + 8) (f c)) (n + 12) (f d)) (n + 16) (f e) = adL p q I n (f a ++ f b ++ f c ++ f d ++ f e) := by
  have h1 := adL_app p q (f a) (f b) I n
  have h2 := adL_app p q (f a ++ f b) (f c) I n
  have h3 := adL_app p q (f a ++ f b ++ f c) (f d) I n
  have h4 := adL_app p q (f a ++ f b ++ f c ++ f d) (f e) I n
  simp only [List.length_append, hf] at h1 h2 h3 h4
  rw [h1, h2, h3, h4]
theorem fd_c {n : Nat} (h : n < 401) : nI n + 20 ≤ 400 ↔ n + 20 ≤ 400 := by
  rw [show (20 : Int32) = nI 20 from rfl, nI_add, show (400 : Int32) = nI 400 from rfl, nI_leI (by omega) (by omega)]
theorem inv_feed {j n : Nat} {I I' : Nat → Nat → Int32} {J : Nat → Nat → Int64} {R : Nat → Nat → Option Nat} {G : zG} {l l' : List Int32} (hI : Inv j (I, J, R, G)) (en : I 9 1 = nI n) (hn : n + 20 ≤ 400) (hl : L2 l l') (h1 : l.length = 20) (h2 : l'.length = 20) (e : I' = adL 52 51 (adL 10 9 I n l) n l') : Inv (j + 1) (I', J, R, G) := by
  obtain ⟨t1, t2, t3⟩ := hI.2.2.2.2.1
  have t2 : I 51 1 = I 9 1 := t2
  have n70 : 71 ≤ G.2.2.1 := hI.1.2
  have h3 : G.2.2.1 ≤ 71 + 20 * j := hI.2.2.1
  have h4 : G.2.2.2 ≤ 6106 + 1000 * j := hI.2.2.2.1
  have ot : ∀ p k, p ≠ 10 → p ≠ 52 → ¬ (p = 9 ∧ k = 1) → ¬ (p = 51 ∧ k = 1) → I' p k = I p k := by
    intro p k a1 a2 a3 a4
    rw [e, adL_o a2 a4, adL_o a1 a3]
  have e62 : I' 62 = I 62 := funext fun k => ot 62 k (by decide) (by decide) (by omega) (by omega)
  have c9 : I' 9 1 = nI (n + 20) := by
    rw [e, adL_o (by decide) (by decide), adL_cnt _ _ _ en, h1]
  have c51 : I' 51 1 = nI (n + 20) := by
    rw [e, adL_cnt _ _ _ (by rw [adL_o (by decide) (by decide), t2]; exact en), h2]
  refine inv_of hI (by omega) (by omega) Gk.rfl (fun p k hp hs => ?_) KR.rfl ⟨?_, ?_, fun k hk => ?_⟩ ?_ ?_
  · unfold sc1 at hs
    exact ot p k (by omega) (by omega) (by omega) (by omega)
  · rw [c9]
    exact Rg.of (by omega) (by omega)
  · rw [c9, c51]
  · have g := row_ok (f := I 10) (g := I 52) (n := n) hl (fun k hk => t3 k hk) k hk
    have f1 : I' 10 k = rowL (I 10) n l k := by
      rw [e, adL_o (by decide) (by omega), adL_row (by decide)]
    have f2 : I' 52 k = rowL (I 52) n l' k := by
      rw [e, adL_row (by decide), show adL 10 9 I n l 52 = I 52 from funext fun k => adL_o (by decide) (by omega) _ _ _]
    rw [f1, f2]
    exact g
  · obtain ⟨pl, hs⟩ : ∃ pl, StR I R G 17 pl (I 62) := hI.2.2.2.2.2.2.1
    refine ⟨pl, ?_⟩
    rw [e62]
    have ho : SOk (I 62) (cl (I 0 4)) := hI.2.2.2.2.2.2.2.1
    have hpl := hs.2.2.1.1
    exact StR.keep hs (Nat.le_of_lt_succ ho.2.1.2) Gk.rfl (fun p k hp hq => ot p k (by omega) (by omega) (by omega) (by omega)) (fun p k hp hq => rfl)
  · rw [e62]
    exact hI.2.2.2.2.2.2.2.1
theorem op_feed {x : Nat × (Nat → Int32)} (a b c d e : Int32) : Op Inv x 71 114 [.int a, .int b, .int c, .int d, .int e] := by
  refine Op.of2 fun j I J R G hj hI => ?_
  have hS : Sh G := hI.1
  have hR : Rs R := hI.2.1
  have hT1 : Rg (I 9 1) 401 := hI.2.2.2.2.1.1
  have hT2 : I 51 1 = I 9 1 := hI.2.2.2.2.1.2.1
  have hN1 : Rg (I 0 4) 7 := hI.2.2.2.2.2.1.1
  have hN2 : I 51 2 = I 0 4 := hI.2.2.2.2.2.1.2.1
  have hN3 : ∀ t, t < cl (I 0 4) → ∃ r, R 16 t = some r ∧ RuR I R G t r := hI.2.2.2.2.2.1.2.2
  obtain ⟨pl, hst⟩ : ∃ pl, StR I R G 17 pl (I 62) := hI.2.2.2.2.2.2.1
  have hO : SOk (I 62) (cl (I 0 4)) := hI.2.2.2.2.2.2.2.1
  obtain ⟨n, hn, en, -⟩ := hT1.ex
  by_cases hP : n + 20 ≤ 400
  · have o51 : (adL 10 9 (adL 10 9 (adL 10 9 (adL 10 9 (adL 10 9 I n (cbL a)) (n + 4) (cbL b)) (n + 8) (cbL c)) (n + 12) (cbL d)) (n + 16) (cbL e)) 51 1 = nI n := (Eq.trans (adL_o (by decide) (by decide) _ _ _) (Eq.trans (adL_o (by decide) (by decide) _ _ _) (Eq.trans (adL_o (by decide) (by decide) _ _ _) (Eq.trans (adL_o (by decide) (by decide) _ _ _) (Eq.trans (adL_o (by decide) (by decide) _ _ _) (hT2.trans en))))))
    show zOk x 399 71 0 [.ref 0, .int (a), .int (b), .int (c), .int (d), .int (e)] [] _ _
    refine k_aload f71_0 rfl ?_
    refine k_getr (q := 9) f71_1 hS.o0 rfl hR.r0_0 ?_
    refine k_gI (w := nI n) f71_4 hS.o9 rfl en ?_
    refine k_iconst (v := 20) f71_7 rfl ?_
    refine k_iadd f71_9 ?_
    refine k_iconst (v := 400) f71_10 rfl ?_
    refine k_ic_le f71_13 (fun _ => ?_) (fun h_ => absurd ((fd_c hn).mpr hP) h_)
    refine k_aload f71_18 rfl ?_
    refine k_getr (q := 9) f71_19 hS.o0 rfl hR.r0_0 ?_
    refine k_iload f71_22 rfl ?_
    refine e_v (as := [.int (a)]) (rest := []) f71_23 hS.o9 rfl rfl rfl (s_add (n := n) hR hS en (by omega)) ?_
    refine k_aload f71_26 rfl ?_
    refine k_getr (q := 9) f71_27 hS.o0 rfl hR.r0_0 ?_
    refine k_iload f71_30 rfl ?_
    refine e_v (as := [.int (b)]) (rest := []) f71_31 hS.o9 rfl rfl rfl (s_add (n := n + 4) hR hS (adL_cnt (p := 10) (q := 9) (cbL a) I n en) (by omega)) ?_
    refine k_aload f71_34 rfl ?_
    refine k_getr (q := 9) f71_35 hS.o0 rfl hR.r0_0 ?_
    refine k_iload f71_38 rfl ?_
    refine e_v (as := [.int (c)]) (rest := []) f71_39 hS.o9 rfl rfl rfl (s_add (n := n + 8) hR hS (adL_cnt (p := 10) (q := 9) (cbL b) (adL 10 9 I n (cbL a)) (n + 4) (adL_cnt (p := 10) (q := 9) (cbL a) I n en)) (by omega)) ?_
    refine k_aload f71_42 rfl ?_
    refine k_getr (q := 9) f71_43 hS.o0 rfl hR.r0_0 ?_
    refine k_iload f71_46 rfl ?_
    refine e_v (as := [.int (d)]) (rest := []) f71_48 hS.o9 rfl rfl rfl (s_add (n := n + 12) hR hS (adL_cnt (p := 10) (q := 9) (cbL c) (adL 10 9 (adL 10 9 I n (cbL a)) (n + 4) (cbL b)) (n + 8) (adL_cnt (p := 10) (q := 9) (cbL b) (adL 10 9 I n (cbL a)) (n + 4) (adL_cnt (p := 10) (q := 9) (cbL a) I n en))) (by omega)) ?_
    refine k_aload f71_51 rfl ?_
    refine k_getr (q := 9) f71_52 hS.o0 rfl hR.r0_0 ?_
    refine k_iload f71_55 rfl ?_
    refine e_v (as := [.int (e)]) (rest := []) f71_57 hS.o9 rfl rfl rfl (s_add (n := n + 16) hR hS (adL_cnt (p := 10) (q := 9) (cbL d) (adL 10 9 (adL 10 9 (adL 10 9 I n (cbL a)) (n + 4) (cbL b)) (n + 8) (cbL c)) (n + 12) (adL_cnt (p := 10) (q := 9) (cbL c) (adL 10 9 (adL 10 9 I n (cbL a)) (n + 4) (cbL b)) (n + 8) (adL_cnt (p := 10) (q := 9) (cbL b) (adL 10 9 I n (cbL a)) (n + 4) (adL_cnt (p := 10) (q := 9) (cbL a) I n en)))) (by omega)) ?_
    refine k_aload f71_60 rfl ?_
    refine k_getr (q := 9) f71_61 hS.o0 rfl hR.r0_0 ?_
    refine k_gI (w := nI (n + 20)) f71_64 hS.o9 rfl (adL_cnt (p := 10) (q := 9) (cbL e) (adL 10 9 (adL 10 9 (adL 10 9 (adL 10 9 I n (cbL a)) (n + 4) (cbL b)) (n + 8) (cbL c)) (n + 12) (cbL d)) (n + 16) (adL_cnt (p := 10) (q := 9) (cbL d) (adL 10 9 (adL 10 9 (adL 10 9 I n (cbL a)) (n + 4) (cbL b)) (n + 8) (cbL c)) (n + 12) (adL_cnt (p := 10) (q := 9) (cbL c) (adL 10 9 (adL 10 9 I n (cbL a)) (n + 4) (cbL b)) (n + 8) (adL_cnt (p := 10) (q := 9) (cbL b) (adL 10 9 I n (cbL a)) (n + 4) (adL_cnt (p := 10) (q := 9) (cbL a) I n en))))) ?_
    refine k_iret f71_67 rfl ⟨_, rfl, ?_⟩
    show zOk x 399 114 0 [.ref 51, .int (a), .int (b), .int (c), .int (d), .int (e)] [] _ _
    refine k_aload f114_0 rfl ?_
    refine k_gI (w := nI n) f114_1 hS.o51 rfl o51 ?_
    refine k_iconst (v := 20) f114_4 rfl ?_
    refine k_iadd f114_6 ?_
    refine k_iconst (v := 400) f114_7 rfl ?_
    refine k_ic_le f114_10 (fun _ => ?_) (fun h_ => absurd ((fd_c hn).mpr hP) h_)
    refine k_aload f114_15 rfl ?_
    refine k_iload f114_16 rfl ?_
    refine e_v (as := [.int (a)]) (rest := []) f114_17 hS.o51 rfl rfl rfl (s_four (n := n) hR hS o51 (by omega)) ?_
    refine k_aload f114_20 rfl ?_
    refine k_iload f114_21 rfl ?_
    refine e_v (as := [.int (b)]) (rest := []) f114_22 hS.o51 rfl rfl rfl (s_four (n := n + 4) hR hS (adL_cnt (p := 52) (q := 51) (bbL a) (adL 10 9 (adL 10 9 (adL 10 9 (adL 10 9 (adL 10 9 I n (cbL a)) (n + 4) (cbL b)) (n + 8) (cbL c)) (n + 12) (cbL d)) (n + 16) (cbL e)) n o51) (by omega)) ?_
    refine k_aload f114_25 rfl ?_
    refine k_iload f114_26 rfl ?_
    refine e_v (as := [.int (c)]) (rest := []) f114_27 hS.o51 rfl rfl rfl (s_four (n := n + 8) hR hS (adL_cnt (p := 52) (q := 51) (bbL b) (adL 52 51 (adL 10 9 (adL 10 9 (adL 10 9 (adL 10 9 (adL 10 9 I n (cbL a)) (n + 4) (cbL b)) (n + 8) (cbL c)) (n + 12) (cbL d)) (n + 16) (cbL e)) n (bbL a)) (n + 4) (adL_cnt (p := 52) (q := 51) (bbL a) (adL 10 9 (adL 10 9 (adL 10 9 (adL 10 9 (adL 10 9 I n (cbL a)) (n + 4) (cbL b)) (n + 8) (cbL c)) (n + 12) (cbL d)) (n + 16) (cbL e)) n o51)) (by omega)) ?_
    refine k_aload f114_30 rfl ?_
    refine k_iload f114_31 rfl ?_
    refine e_v (as := [.int (d)]) (rest := []) f114_33 hS.o51 rfl rfl rfl (s_four (n := n + 12) hR hS (adL_cnt (p := 52) (q := 51) (bbL c) (adL 52 51 (adL 52 51 (adL 10 9 (adL 10 9 (adL 10 9 (adL 10 9 (adL 10 9 I n (cbL a)) (n + 4) (cbL b)) (n + 8) (cbL c)) (n + 12) (cbL d)) (n + 16) (cbL e)) n (bbL a)) (n + 4) (bbL b)) (n + 8) (adL_cnt (p := 52) (q := 51) (bbL b) (adL 52 51 (adL 10 9 (adL 10 9 (adL 10 9 (adL 10 9 (adL 10 9 I n (cbL a)) (n + 4) (cbL b)) (n + 8) (cbL c)) (n + 12) (cbL d)) (n + 16) (cbL e)) n (bbL a)) (n + 4) (adL_cnt (p := 52) (q := 51) (bbL a) (adL 10 9 (adL 10 9 (adL 10 9 (adL 10 9 (adL 10 9 I n (cbL a)) (n + 4) (cbL b)) (n + 8) (cbL c)) (n + 12) (cbL d)) (n + 16) (cbL e)) n o51))) (by omega)) ?_
    refine k_aload f114_36 rfl ?_
    refine k_iload f114_37 rfl ?_
    refine e_v (as := [.int (e)]) (rest := []) f114_39 hS.o51 rfl rfl rfl (s_four (n := n + 16) hR hS (adL_cnt (p := 52) (q := 51) (bbL d) (adL 52 51 (adL 52 51 (adL 52 51 (adL 10 9 (adL 10 9 (adL 10 9 (adL 10 9 (adL 10 9 I n (cbL a)) (n + 4) (cbL b)) (n + 8) (cbL c)) (n + 12) (cbL d)) (n + 16) (cbL e)) n (bbL a)) (n + 4) (bbL b)) (n + 8) (bbL c)) (n + 12) (adL_cnt (p := 52) (q := 51) (bbL c) (adL 52 51 (adL 52 51 (adL 10 9 (adL 10 9 (adL 10 9 (adL 10 9 (adL 10 9 I n (cbL a)) (n + 4) (cbL b)) (n + 8) (cbL c)) (n + 12) (cbL d)) (n + 16) (cbL e)) n (bbL a)) (n + 4) (bbL b)) (n + 8) (adL_cnt (p := 52) (q := 51) (bbL b) (adL 52 51 (adL 10 9 (adL 10 9 (adL 10 9 (adL 10 9 (adL 10 9 I n (cbL a)) (n + 4) (cbL b)) (n + 8) (cbL c)) (n + 12) (cbL d)) (n + 16) (cbL e)) n (bbL a)) (n + 4) (adL_cnt (p := 52) (q := 51) (bbL a) (adL 10 9 (adL 10 9 (adL 10 9 (adL 10 9 (adL 10 9 I n (cbL a)) (n + 4) (cbL b)) (n + 8) (cbL c)) (n + 12) (cbL d)) (n + 16) (cbL e)) n o51)))) (by omega)) ?_
    refine k_aload f114_42 rfl ?_
    refine k_gI (w := nI (n + 20)) f114_43 hS.o51 rfl (adL_cnt (p := 52) (q := 51) (bbL e) (adL 52 51 (adL 52 51 (adL 52 51 (adL 52 51 (adL 10 9 (adL 10 9 (adL 10 9 (adL 10 9 (adL 10 9 I n (cbL a)) (n + 4) (cbL b)) (n + 8) (cbL c)) (n + 12) (cbL d)) (n + 16) (cbL e)) n (bbL a)) (n + 4) (bbL b)) (n + 8) (bbL c)) (n + 12) (bbL d)) (n + 16) (adL_cnt (p := 52) (q := 51) (bbL d) (adL 52 51 (adL 52 51 (adL 52 51 (adL 10 9 (adL 10 9 (adL 10 9 (adL 10 9 (adL 10 9 I n (cbL a)) (n + 4) (cbL b)) (n + 8) (cbL c)) (n + 12) (cbL d)) (n + 16) (cbL e)) n (bbL a)) (n + 4) (bbL b)) (n + 8) (bbL c)) (n + 12) (adL_cnt (p := 52) (q := 51) (bbL c) (adL 52 51 (adL 52 51 (adL 10 9 (adL 10 9 (adL 10 9 (adL 10 9 (adL 10 9 I n (cbL a)) (n + 4) (cbL b)) (n + 8) (cbL c)) (n + 12) (cbL d)) (n + 16) (cbL e)) n (bbL a)) (n + 4) (bbL b)) (n + 8) (adL_cnt (p := 52) (q := 51) (bbL b) (adL 52 51 (adL 10 9 (adL 10 9 (adL 10 9 (adL 10 9 (adL 10 9 I n (cbL a)) (n + 4) (cbL b)) (n + 8) (cbL c)) (n + 12) (cbL d)) (n + 16) (cbL e)) n (bbL a)) (n + 4) (adL_cnt (p := 52) (q := 51) (bbL a) (adL 10 9 (adL 10 9 (adL 10 9 (adL 10 9 (adL 10 9 I n (cbL a)) (n + 4) (cbL b)) (n + 8) (cbL c)) (n + 12) (cbL d)) (n + 16) (cbL e)) n o51))))) ?_
    refine k_iret f114_46 rfl ⟨rfl, ?_⟩
    exact inv_feed hI en hP (((((L2_4 a).app (L2_4 b)).app (L2_4 c)).app (L2_4 d)).app (L2_4 e)) rfl rfl (by rw [ad5 52 51 _ n a b c d e bbL (fun _ => rfl), ad5 10 9 I n a b c d e cbL (fun _ => rfl)])
  · show zOk x 399 71 0 [.ref 0, .int (a), .int (b), .int (c), .int (d), .int (e)] [] _ _
    refine k_aload f71_0 rfl ?_
    refine k_getr (q := 9) f71_1 hS.o0 rfl hR.r0_0 ?_
    refine k_gI (w := nI n) f71_4 hS.o9 rfl en ?_
    refine k_iconst (v := 20) f71_7 rfl ?_
    refine k_iadd f71_9 ?_
    refine k_iconst (v := 400) f71_10 rfl ?_
    refine k_ic_le f71_13 (fun h_ => absurd h_ (fun h => hP ((fd_c hn).mp h))) (fun _ => ?_)
    refine k_iconst (v := (-1)) f71_16 rfl ?_
    refine k_iret f71_17 rfl ⟨_, rfl, ?_⟩
    show zOk x 399 114 0 [.ref 51, .int (a), .int (b), .int (c), .int (d), .int (e)] [] _ _
    refine k_aload f114_0 rfl ?_
    refine k_gI (w := nI n) f114_1 hS.o51 rfl (hT2.trans en) ?_
    refine k_iconst (v := 20) f114_4 rfl ?_
    refine k_iadd f114_6 ?_
    refine k_iconst (v := 400) f114_7 rfl ?_
    refine k_ic_le f114_10 (fun h_ => absurd h_ (fun h => hP ((fd_c hn).mp h))) (fun _ => ?_)
    refine k_iconst (v := (-1)) f114_13 rfl ?_
    refine k_iret f114_14 rfl ⟨rfl, ?_⟩
    exact inv_q hI (by omega) Kq.rfl KS.rfl
