/-! IMAGE. -/
theorem RuR.keep2 {I I' : Nat → Nat → Int32} {R R' : Nat → Nat → Option Nat} {G G' : zG} {t r : Nat} (h : RuR I R G t r) (hg : Gk G G') (hi : ∀ p k, p < G.2.2.1 → 71 ≤ p → G.1 p = 14 → I' p k = I p k) (hr : ∀ p k, p < G.2.2.1 → 71 ≤ p → G.1 p = 4 → R' p k = R p k)
    (h53 : ∀ k, I' 53 k = I 53 k) (h55 : ∀ k, I' 55 k = I 55 k) (h56 : I' 56 t = I 56 t) : RuR I' R' G' t r := by
  obtain ⟨a, b, c, n, k, ⟨s0, s1, s2, s3, s4, s5, s6, s7, s8, s9, s10, s11, s12⟩, v1, e, v2, v3⟩ := h
  refine ⟨a, b, c, n, k, ⟨s0, s1.keep hg, (hr _ _ s1.1 s0 s1.2.1).trans s2, (hr _ _ s1.1 s0 s1.2.1).trans s3, (hr _ _ s1.1 s0 s1.2.1).trans s4, s5.keep hg, s6.keep hg, s7.keep hg, s8, s9, s10, s11, s12⟩, h56.trans v1, e, v2, fun i hi' => ?_⟩
  obtain ⟨w1, w2, w3, kd, f, u, u1, u2, u3, u4, u5, u6, u7, u8⟩ := v3 i hi'
  refine ⟨w1, w2, (hi _ _ s7.1 s10 s7.2.1).trans w3, kd, f, u, u1, u2, u3, (hi _ _ s6.1 s9 s6.2.1).trans u4, (h55 _).trans u5, (h55 _).trans u6, (h55 _).trans u7, ?_⟩
  exact u8.congr (fun j => hi _ _ s5.1 s8 s5.2.1) (fun j => h53 _)
theorem pl_kind {R : Nat → Nat → Option Nat} {G : zG} {pl p : Nat} (h : PlS R G pl) (hp : pl ≤ p ∧ p < pl + 8) : G.1 p = 3 ∨ G.1 p = 14 := by
  obtain ⟨_, c1, _, c3, c4⟩ := h
  by_cases e0 : p = pl
  · exact Or.inl (e0 ▸ c1.2.1)
  · by_cases e1 : p < pl + 4
    · have := (c3 (p - pl - 1) (by omega)).2.1
      rw [show pl + 1 + (p - pl - 1) = p by omega] at this
      exact Or.inr this
    · have := (c4 (p - pl - 4) (by omega)).2.1
      rw [show pl + 4 + (p - pl - 4) = p by omega] at this
      exact Or.inr this
theorem st_kind {R : Nat → Nat → Option Nat} {G : zG} {st p : Nat} (h : StS R G st) (hp : st ≤ p ∧ p < st + 10) : G.1 p = 6 ∨ G.1 p = 17 ∨ G.1 p = 1 := by
  obtain ⟨a1, _, a3, a4⟩ := h
  by_cases e0 : p = st
  · exact Or.inl (e0 ▸ a1.2.1)
  · by_cases e1 : p = st + 1
    · exact Or.inr (Or.inl (e1 ▸ a3.2.1))
    · have := (a4 (p - st - 2) (by omega)).2.2.1
      rw [show st + 2 + (p - st - 2) = p by omega] at this
      exact Or.inr (Or.inr this)
/-- a State and a Plan lie apart -/
theorem st_pl {R : Nat → Nat → Option Nat} {G : zG} {st pl : Nat} (h1 : StS R G st) (h2 : PlS R G pl) : pl + 8 ≤ st ∨ st + 10 ≤ pl := by
  by_cases e : pl + 8 ≤ st ∨ st + 10 ≤ pl
  · exact e
  · by_cases q : st ≤ pl
    · have a := st_kind h1 (p := pl) (by omega)
      have b := pl_kind h2 (p := pl) (by omega)
      omega
    · have a := st_kind h1 (p := st) (by omega)
      have b := pl_kind h2 (p := st) (by omega)
      omega
theorem inv_img {j t st pl : Nat} {I I' : Nat → Nat → Int32} {J J' : Nat → Nat → Int64} {R R' : Nat → Nat → Option Nat} {G G' : zG} (h : Inv j (I, J, R, G)) (ht4 : t < 4) (h71 : 71 ≤ st) (hn : G'.2.2.1 ≤ 71 + 20 * (j + 1)) (ht : G'.2.2.2 ≤ 6106 + 1000 * (j + 1)) (hg : Gk G G')
    (hkd : ∀ p, p < G.2.2.1 → st ≤ p → p < st + 10 → G.1 p = 6 ∨ G.1 p = 17 ∨ G.1 p = 1)
    (hap : ∀ l su, l < 4 → l ≠ t → R 37 l = some su → st + 10 ≤ su ∨ su + 10 ≤ st)
    (hi : ∀ p k, p < G.2.2.1 → ¬ (st ≤ p ∧ p < st + 10) → ¬ (p = 69 ∧ 139 * t ≤ k ∧ k < 139 * t + 139) → ¬ (p = 70 ∧ k = t) → I' p k = I p k)
    (hr : ∀ p k, p < G.2.2.1 → ¬ (st ≤ p ∧ p < st + 10) → ¬ (p = 37 ∧ k = t) → R' p k = R p k)
    (hm : R' 37 t = some st) (h70 : I' 70 t = 1) (h69 : ∀ k, k < 139 → I' 69 (139 * t + k) = I 62 k) (hS2 : StR I' R' G' st pl (I 62)) : Inv (j + 1) (I', J', R', G') := by
  obtain ⟨a1, a2, a3, a4, a5, ⟨b1, b2, b3⟩, ⟨pl0, a6⟩, a7, a8, a9⟩ := h
  have n70 : 71 ≤ G.2.2.1 := a1.2
  have a5 : TpV I := a5
  have a6 : StR I R G 17 pl0 (I 62) := a6
  have a7 : SOk (I 62) (cl (I 0 4)) := a7
  have lo : ∀ p k, p < 69 → I' p k = I p k := fun p k hp => hi p k (by omega) (by omega) (by omega) (by omega)
  have e04 : I' 0 4 = I 0 4 := lo 0 4 (by omega)
  have e62 : I' 62 = I 62 := funext fun k => lo 62 k (by omega)
  have c8 : cl (I 62 1) ≤ 8 := Nat.le_of_lt_succ a7.2.1.2
  have ebig : ∀ p k, p < G.2.2.1 → 71 ≤ p → G.1 p = 14 ∨ G.1 p = 3 → I' p k = I p k := fun p k hp h71 hk => hi p k hp (fun q => by have := hkd p hp q.1 q.2; omega) (by omega) (by omega)
  have rbig : ∀ p k, p < G.2.2.1 → 71 ≤ p → G.1 p = 4 ∨ G.1 p = 3 → R' p k = R p k := fun p k hp h71 hk => hr p k hp (fun q => by have := hkd p hp q.1 q.2; omega) (by omega)
  have epl : ∀ {pl : Nat}, PlS R G pl → ∀ p k, p < G.2.2.1 → pl ≤ p ∧ p < pl + 8 → I' p k = I p k := fun {pl} hP p k hp hq => by
    by_cases e : p < 71
    · exact hi p k hp (by omega) (by have := hP.1; omega) (by have := hP.1; omega)
    · exact ebig p k hp (by omega) (by have := pl_kind hP hq; omega)
  have rpl : ∀ {pl : Nat}, PlS R G pl → ∀ k, pl < G.2.2.1 → R' pl k = R pl k := fun {pl} hP k hp => by
    by_cases e : pl < 71
    · exact hr pl k hp (by omega) (by have := hP.1; omega)
    · exact rbig pl k hp (by omega) (Or.inr hP.2.1.2.1)
  refine ⟨a1.keep hg, fun q hq => ?_, hn, ht, ?_, ⟨by show Rg (I' 0 4) 7; rw [e04]; exact b1, ?_, ?_⟩, ⟨pl0, ?_⟩, ?_, fun k hk => ?_, ?_⟩
  · have a : q.1 < 71 ∧ q.1 ≠ 37 := by
      have t : rsL.all (fun q => decide (q.1 < 71 ∧ q.1 ≠ 37)) = true := by decide +kernel
      simpa only [decide_eq_true_eq] using List.all_eq_true.mp t q hq
    show R' q.1 q.2.1 = some q.2.2
    rw [hr _ _ (by omega) (by omega) (by omega)]
    exact a2 q hq
  · show TpV I'
    obtain ⟨t1, t2, t3⟩ := a5
    refine ⟨by rw [lo 9 1 (by omega)]; exact t1, by rw [lo 9 1 (by omega), lo 51 1 (by omega)]; exact t2, fun k hk => ?_⟩
    rw [lo 10 k (by omega), lo 52 k (by omega)]
    exact t3 k hk
  · show I' 51 2 = I' 0 4
    rw [e04, lo 51 2 (by omega)]
    exact b2
  · intro u hu
    have hu' : u < cl (I 0 4) := by rw [← e04]; exact hu
    obtain ⟨r, r1, r2⟩ := b3 u hu'
    exact ⟨r, (hr 16 u (by omega) (by omega) (by omega)).trans r1, r2.keep2 hg (fun p k hp h1 h2 => ebig p k hp h1 (Or.inl h2)) (fun p k hp h1 h2 => rbig p k hp h1 (Or.inl h2)) (fun k => lo 53 _ (by omega)) (fun k => lo 55 _ (by omega)) (lo 56 _ (by omega))⟩
  · show StR I' R' G' 17 pl0 (I' 62)
    rw [e62]
    refine a6.keep c8 hg (fun p k hp hq => ?_) (fun p k hp hq => ?_)
    · by_cases e : pl0 ≤ p ∧ p < pl0 + 8
      · exact epl a6.2.2.1 p k hp e
      · exact lo p k (by omega)
    · by_cases e : p = pl0
      · exact e ▸ rpl a6.2.2.1 k (e ▸ hp)
      · exact hr p k hp (by omega) (by omega)
  · show SOk (I' 62) (cl (I' 0 4))
    rw [e62, e04]
    exact a7
  · show ImN I' R' k ∨ ImY I' R' G' (cl (I' 0 4)) k
    rw [e04]
    by_cases e : k = t
    · subst e
      have e2 : ∀ i, i < 139 → imS I' k i = I 62 i := fun i hi => h69 i hi
      exact Or.inr ⟨h70, st, pl, hm, h71, hS2.cg c8 (Nat.le_of_lt a7.2.2.1.2) e2, a7.cg e2⟩
    · have e3 : ∀ i, i < 139 → imS I' k i = imS I k i := fun i hi2 => hi 69 _ (by omega) (by omega) (by omega) (by omega)
      have r37 : R' 37 k = R 37 k := hr 37 k (by omega) (by omega) (by omega)
      have i70 : I' 70 k = I 70 k := hi 70 k (by omega) (by omega) (by omega) (by omega)
      rcases a8 k hk with hN | ⟨y1, su, pl1, y2, y3, y4, y5⟩
      · exact Or.inl ⟨i70.trans hN.1, r37.trans hN.2⟩
      · have y4 : StR I R G su pl1 (imS I k) := y4
        have y5 : SOk (imS I k) (cl (I 0 4)) := y5
        have hc : cl (imS I k 1) ≤ 8 := Nat.le_of_lt_succ y5.2.1.2
        have ap := hap k su hk e y2
        refine Or.inr ⟨i70.trans y1, su, pl1, r37.trans y2, y3, StR.cg (s := imS I k) (y4.keep hc hg (fun p k' hp hq => ?_) (fun p k' hp hq => ?_)) hc (Nat.le_of_lt y5.2.2.1.2) e3, y5.cg e3⟩
        · by_cases e : pl1 ≤ p ∧ p < pl1 + 8
          · exact epl y4.2.2.1 p k' hp e
          · exact hi p k' hp (by omega) (by omega) (by omega)
        · by_cases e : p = pl1
          · exact e ▸ rpl y4.2.2.1 k' (e ▸ hp)
          · exact hr p k' hp (by omega) (by omega)
  · intro k l sk sl hk hl hne e1 e2
    by_cases ek : k = t
    · subst ek
      have : st = sk := Option.some.inj (hm.symm.trans e1)
      subst this
      have r37 : R' 37 l = R 37 l := hr 37 l (by omega) (by omega) (by omega)
      exact hap l sl hl (by omega) (r37.symm.trans e2)
    · have r37 : R' 37 k = R 37 k := hr 37 k (by omega) (by omega) (by omega)
      by_cases el : l = t
      · subst el
        have : st = sl := Option.some.inj (hm.symm.trans e2)
        subst this
        have := hap k sk hk ek (r37.symm.trans e1)
        omega
      · have r37' : R' 37 l = R 37 l := hr 37 l (by omega) (by omega) (by omega)
        exact a9 k l sk sl hk hl hne (r37.symm.trans e1) (r37'.symm.trans e2)
theorem lp_img {x : Nat × (Nat → Int32)} {d : Nat} {J : Nat → Nat → Int64} {R : Nat → Nat → Option Nat} {G : zG} {I0 : Nat → Nat → Int32} {t : Nat} (hR : Rs R) (hS : Sh G) (ht : t < 4) : ∀ (f i : Nat) (I : Nat → Nat → Int32), i + f = 139 → rwH I0 I 69 (139 * t) 62 0 i → zOk x d 203 23 [.ref 51, .int (nI t), .int (nI i)] [] (I, J, R, G) (fun v m => v = some (.int (I0 62 3)) ∧ ∃ I', m = (I', J, R, G) ∧ rwH I0 I' 69 (139 * t) 62 0 139) := by
  intro f
  induction f with
  | zero =>
    intro i I hi hH
    have hi : i = 139 := by omega
    subst hi
    refine k_iload f203_23 rfl ?_
    refine k_iconst (v := 139) f203_24 rfl ?_
    refine k_ic_ge f203_27 (fun _ => ?_) (fun h_ => absurd (by decide) h_)
    refine k_aload f203_54 rfl ?_
    refine k_getr (q := 62) f203_55 hS.o51 rfl hR.r51_25 ?_
    refine k_iconst (v := 3) f203_58 rfl ?_
    refine k_ia (k := 3) (w := I0 62 3) f203_59 hS.a62 rfl (by decide) (by decide) (hH.1 _ _ (by omega)) ?_
    exact k_iret f203_60 rfl ⟨rfl, I, rfl, hH⟩
  | succ f ih =>
    intro i I hi hH
    refine k_iload f203_23 rfl ?_
    refine k_iconst (v := 139) f203_24 rfl ?_
    refine k_ic_ge f203_27 (fun h_ => absurd h_ (nI_ge (b := 139) (by omega) (by omega))) (fun _ => ?_)
    refine k_aload f203_30 rfl ?_
    refine k_getr (q := 69) f203_31 hS.o51 rfl hR.r51_37 ?_
    refine k_iconst (v := 139) f203_34 rfl ?_
    refine k_iload f203_37 rfl ?_
    refine k_imul f203_38 ?_
    refine k_iload f203_39 rfl ?_
    refine k_iadd f203_40 ?_
    refine k_aload f203_41 rfl ?_
    refine k_getr (q := 62) f203_42 hS.o51 rfl hR.r51_25 ?_
    refine k_iload f203_45 rfl ?_
    refine k_ia (k := i) (w := I 62 i) f203_46 hS.a62 rfl (by omega) (by decide) rfl ?_
    refine k_is (k := 139 * t + i) f203_47 hS.a69 (ix_i t i) (by omega) (by decide) ?_
    refine k_iinc (w := nI (i + 1)) (L' := [.ref 51, .int (nI t), .int (nI (i + 1))]) f203_48 rfl (nI_1 i) rfl rfl ?_
    refine k_goto f203_51 ?_
    have hs := rwH_s hH (by decide)
    rw [Nat.zero_add] at hs
    exact ih (i + 1) _ (by omega) hs
