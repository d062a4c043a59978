/-! FRAMES: what may change while Inv stays. -/
theorem zRn_of {x : Nat × (Nat → Int32)} {d y : Nat} {as : List Value} {m : zM} {Q : Option Value → zM → Prop} (h : zOk x d y 0 (z_l0 as (z_ml.getD y 0)) [] m Q) : ∃ v m', zRn x d y as m v m' ∧ Q v m' := by
  obtain ⟨n, v, m', e, q⟩ := h
  exact ⟨v, m', ⟨n, v, m', e, rfl, rfl⟩, q⟩
theorem Op.of {Inv : Nat → zM → Prop} {x : Nat × (Nat → Int32)} {yc ym : Nat} {as : List Value} (h : ∀ (j : Nat) (I : Nat → Nat → Int32) (J : Nat → Nat → Int64) (R : Nat → Nat → Option Nat) (G : zG), j < 512 → Inv j (I, J, R, G) → ∃ (w : Int32) (P : zM → Prop), zOk x 399 yc 0 (z_l0 (.ref 0 :: as) (z_ml.getD yc 0)) [] (I, J, R, G) (fun v m => v = some (.int w) ∧ P m) ∧
    ∀ I1 J1 R1 G1, P (I1, J1, R1, G1) → zOk x 399 ym 0 (z_l0 (.ref 51 :: as) (z_ml.getD ym 0)) [] (I1, J1, R1, G1) (fun v m => v = some (.int w) ∧ Inv (j + 1) m)) : Op Inv x yc ym as := by
  intro j m hj hI
  obtain ⟨I, J, R, G⟩ := m
  obtain ⟨w, P, h1, h2⟩ := h j I J R G hj hI
  obtain ⟨v, m1, e1, rfl, hP⟩ := zRn_of h1
  obtain ⟨I1, J1, R1, G1⟩ := m1
  obtain ⟨v2, m2, e2, rfl, hI2⟩ := zRn_of (h2 I1 J1 R1 G1 hP)
  exact ⟨w, _, m2, e1, e2, hI2⟩
def Gk (G G' : zG) : Prop := ∀ p, p < G.2.2.1 → p < G'.2.2.1 ∧ G'.1 p = G.1 p ∧ G'.2.1 p = G.2.1 p
theorem Gk.rfl {G : zG} : Gk G G := fun _ h => ⟨h, Eq.refl _, Eq.refl _⟩
theorem Gk.trans {G G1 G2 : zG} (h1 : Gk G G1) (h2 : Gk G1 G2) : Gk G G2 := fun p hp => ⟨(h2 p (h1 p hp).1).1, (h2 p (h1 p hp).1).2.1.trans (h1 p hp).2.1, (h2 p (h1 p hp).1).2.2.trans (h1 p hp).2.2⟩
theorem Gk.new {G : zG} (kd len : Nat) : Gk G (zGn G kd len) := fun p hp => ⟨Nat.lt_succ_of_lt hp, by simp [zGn, z_1, Nat.ne_of_lt hp], by simp [zGn, z_1, Nat.ne_of_lt hp]⟩
theorem zo.keep {G G' : zG} {p c : Nat} (h : zo G p c) (hg : Gk G G') : zo G' p c := ⟨(hg p h.1).1, (hg p h.1).2.1.trans h.2.1, (hg p h.1).2.2.trans h.2.2⟩
theorem za.keep {G G' : zG} {p c n : Nat} (h : za G p c n) (hg : Gk G G') : za G' p c n := ⟨(hg p h.1).1, (hg p h.1).2.1.trans h.2.1, (hg p h.1).2.2.trans h.2.2⟩
theorem Sh.keep {G G' : zG} (h : Sh G) (hg : Gk G G') : Sh G' := ⟨fun q hq => (h.1 q hq).keep hg, by
  have := (hg 70 (by have := h.2; omega)).1
  omega⟩
theorem StR.keep {I I' : Nat → Nat → Int32} {R R' : Nat → Nat → Option Nat} {G G' : zG} {st pl : Nat} {s : Nat → Int32} (h : StR I R G st pl s) (hc : cl (s 1) ≤ 8) (hg : Gk G G') (hi : ∀ p k, p < G.2.2.1 → (p = st ∨ (st + 2 ≤ p ∧ p < st + 10) ∨ (pl ≤ p ∧ p < pl + 8)) → I' p k = I p k) (hr : ∀ p k, p < G.2.2.1 → (p = st ∨ p = st + 1 ∨ p = pl) → R' p k = R p k) : StR I' R' G' st pl s := by
  obtain ⟨⟨a1, a2, a3, a4⟩, b, ⟨c0, c1, c2, c3, c4⟩, ⟨d1, d2, d3, d4, d5⟩, e1, e2, e3, e4, e5⟩ := h
  refine ⟨⟨a1.keep hg, (hr _ _ a1.1 (by omega)).trans a2, a3.keep hg, fun c hc => ⟨(hr _ _ a3.1 (by omega)).trans (a4 c hc).1, (a4 c hc).2.keep hg⟩⟩, (hr _ _ a1.1 (by omega)).trans b, ⟨c0, c1.keep hg, fun i hi => (hr _ _ c1.1 (by omega)).trans (c2 i hi), fun i hi => (c3 i hi).keep hg, fun i hi => (c4 i hi).keep hg⟩, ⟨(hi _ _ c1.1 (by omega)).trans d1, (hi _ _ c1.1 (by omega)).trans d2, (hi _ _ c1.1 (by omega)).trans d3, (hi _ _ c1.1 (by omega)).trans d4, fun m hm => ⟨?_, ?_, ?_, ?_⟩⟩, (hi _ _ a1.1 (by omega)).trans e1, (hi _ _ a1.1 (by omega)).trans e2, (hi _ _ a1.1 (by omega)).trans e3, (hi _ _ a1.1 (by omega)).trans e4, fun c hc' => ?_⟩
  · exact (hi _ _ (c4 0 (by omega)).1 (by omega)).trans (d5 m hm).1
  · exact (hi _ _ (c4 1 (by omega)).1 (by omega)).trans (d5 m hm).2.1
  · exact (hi _ _ (c4 2 (by omega)).1 (by omega)).trans (d5 m hm).2.2.1
  · exact (hi _ _ (c4 3 (by omega)).1 (by omega)).trans (d5 m hm).2.2.2
  · have hz := (a4 c (by omega)).2.1
    have t : ∀ k, I' (st + 2 + c) k = I (st + 2 + c) k := fun k => hi _ k hz (by omega)
    obtain ⟨f0, f1, f2, f3, f4, f5, f6⟩ := e5 c hc'
    exact ⟨(t 0).trans f0, (t 1).trans f1, (t 2).trans f2, (t 3).trans f3, (t 4).trans f4, (t 5).trans f5, (t 6).trans f6⟩
theorem ClE.congr {cc cc' dc dc' : Nat → Int32} {f1 t1 f2 t2 : Nat} (h : ClE cc f1 t1 dc f2 t2) (h1 : ∀ i, cc' i = cc i) (h2 : ∀ i, dc' i = dc i) : ClE cc' f1 t1 dc' f2 t2 := by
  rw [show cc' = cc from funext h1, show dc' = dc from funext h2]
  exact h
theorem RuR.keep {I I' : Nat → Nat → Int32} {R R' : Nat → Nat → Option Nat} {G G' : zG} {t r : Nat} (h : RuR I R G t r) (hg : Gk G G') (hi : ∀ p k, p < G.2.2.1 → 71 ≤ p → I' p k = I p k) (hr : ∀ p k, p < G.2.2.1 → 71 ≤ p → R' p k = R p k)
    (h53 : ∀ k, k < 400 → I' 53 (400 * t + k) = I 53 (400 * t + k)) (h55 : ∀ k, k < 36 → I' 55 (36 * t + k) = I 55 (36 * t + k)) (h56 : I' 56 t = I 56 t) (hd : ∀ (w : Nat → Int64) (f u : Nat) (q : (Nat → Int64) × Nat), u ≤ 400 → f ≤ u → ruD w (fun j => I' 53 (400 * t + j)) f (u - f) q = ruD w (fun j => I 53 (400 * t + j)) f (u - f) q) : RuR I' R' G' t r := by
  obtain ⟨a, b, c, n, k, ⟨s0, s1, s2, s3, s4, s5, s6, s7, s8, s9, s10, s11, s12⟩, v1, e, v2, v3⟩ := h
  refine ⟨a, b, c, n, k, ⟨s0, s1.keep hg, (hr _ _ s1.1 s0).trans s2, (hr _ _ s1.1 s0).trans s3, (hr _ _ s1.1 s0).trans s4, s5.keep hg, s6.keep hg, s7.keep hg, s8, s9, s10, s11, s12⟩, h56.trans v1, e, v2, fun i hi' => ?_⟩
  obtain ⟨w1, w2, w3, kd, f, u, u1, u2, u3, u4, u5, u6, u7, u8⟩ := v3 i hi'
  refine ⟨w1, w2, (hi _ _ s7.1 s10).trans w3, kd, f, u, u1, u2, u3, (hi _ _ s6.1 s9).trans u4, (h55 _ (by omega)).trans u5, (h55 (3 * i + 1) (by omega)).trans u6, (h55 (3 * i + 2) (by omega)).trans u7, ?_⟩
  intro w q1 q2
  rw [hd w f u _ u3 u2, show I' a = I a from funext fun j => hi a j s5.1 s8]
  exact u8 w q1 q2
theorem ruD_congr {w : Nat → Int64} {c c' : Nat → Int32} : ∀ (n i : Nat) (q : (Nat → Int64) × Nat), (∀ k, k < n → c' (i + k) = c (i + k)) → ruD w c' i n q = ruD w c i n q := by
  intro n
  induction n with
  | zero => intro i q _; rfl
  | succ n ih =>
    intro i q h
    have e := h 0 (by omega)
    simp only [Nat.add_zero] at e
    simp only [ruD, e]
    cases stD w (c i) q with
    | none => rfl
    | some r =>
      refine ih (i + 1) r fun k hk => ?_
      have := h (k + 1) (by omega)
      rw [show i + 1 + k = i + (k + 1) by omega]
      exact this
/-- places that Inv doesn't see, but for the TAPES, row 62 and the State now -/
def sc1 (p k : Nat) : Prop := (9 ≤ p ∧ p ≤ 15) ∨ (17 ≤ p ∧ p ≤ 36) ∨ (38 ≤ p ∧ p ≤ 50) ∨ (p = 51 ∧ k ≠ 2) ∨ p = 52 ∨ p = 54 ∨ (57 ≤ p ∧ p ≤ 68)
def Kp (G : zG) (I I' : Nat → Nat → Int32) : Prop := ∀ p k, p < G.2.2.1 → ¬ sc1 p k → I' p k = I p k
def KR (G : zG) (R R' : Nat → Nat → Option Nat) : Prop := ∀ p k, p < G.2.2.1 → ¬ ((p = 17 ∨ p = 27) ∧ k = 0) → ¬ (p = 43 ∧ (k = 2 ∨ k = 3)) → R' p k = R p k
theorem KR.rfl {G : zG} {R : Nat → Nat → Option Nat} : KR G R R := fun _ _ _ _ _ => Eq.refl _
theorem rs_keep {G : zG} {R R' : Nat → Nat → Option Nat} (hS : Sh G) (h : Rs R) (hr : KR G R R') : Rs R' := by
  intro q hq
  have a : q.1 < 71 ∧ ¬ ((q.1 = 17 ∨ q.1 = 27) ∧ q.2.1 = 0) ∧ ¬ (q.1 = 43 ∧ (q.2.1 = 2 ∨ q.2.1 = 3)) := by
    have t : rsL.all (fun q => decide (q.1 < 71 ∧ ¬ ((q.1 = 17 ∨ q.1 = 27) ∧ q.2.1 = 0) ∧ ¬ (q.1 = 43 ∧ (q.2.1 = 2 ∨ q.2.1 = 3)))) = true := by decide +kernel
    simpa only [decide_eq_true_eq] using List.all_eq_true.mp t q hq
  rw [hr _ _ (by have := hS.2; omega) a.2.1 a.2.2]
  exact h q hq
theorem inv_of {j j' : Nat} {I I' : Nat → Nat → Int32} {J J' : Nat → Nat → Int64} {R R' : Nat → Nat → Option Nat} {G G' : zG} (h : Inv j (I, J, R, G)) (hn : G'.2.2.1 ≤ 71 + 20 * j') (ht : G'.2.2.2 ≤ 6106 + 1000 * j') (hg : Gk G G') (hi : Kp G I I') (hr : KR G R R') (hp : TpV I') (hs : ∃ pl, StR I' R' G' 17 pl (I' 62)) (ho : SOk (I' 62) (cl (I 0 4))) : Inv j' (I', J', R', G') := by
  obtain ⟨a1, a2, a3, a4, a5, ⟨b1, b2, b3⟩, a6, a7, a8, a9⟩ := h
  have n70 : 71 ≤ G.2.2.1 := a1.2
  have hi : Kp G I I' := hi
  have e04 : I' 0 4 = I 0 4 := hi 0 4 (by omega) (by unfold sc1; omega)
  have ebig : ∀ p k, p < G.2.2.1 → 71 ≤ p → I' p k = I p k := fun p k hp h71 => hi p k hp (by unfold sc1; omega)
  have erow : ∀ p k, p = 53 ∨ p = 55 ∨ p = 56 ∨ p = 69 ∨ p = 70 → I' p k = I p k := fun p k hp => hi p k (by omega) (by unfold sc1; omega)
  have rbig : ∀ p k, p < G.2.2.1 → 71 ≤ p → R' p k = R p k := fun p k hp h71 => hr p k hp (by omega) (by omega)
  have e37 : ∀ k, R' 37 k = R 37 k := fun k => hr 37 k (by omega) (by omega) (by omega)
  refine ⟨a1.keep hg, rs_keep a1 a2 hr, hn, ht, hp, ⟨by show Rg (I' 0 4) 7; rw [e04]; exact b1, ?_, ?_⟩, hs, ?_, fun k hk => ?_, ?_⟩
  · show I' 51 2 = I' 0 4
    rw [e04, hi 51 2 (by omega) (by unfold sc1; omega)]
    exact b2
  · intro t ht
    have ht' : t < cl (I 0 4) := by rw [← e04]; exact ht
    obtain ⟨r, r1, r2⟩ := b3 t ht'
    refine ⟨r, (hr 16 t (by omega) (by omega) (by omega)).trans r1, r2.keep hg ebig rbig (fun k _ => erow 53 _ (by omega)) (fun k _ => erow 55 _ (by omega)) (erow 56 _ (by omega)) fun w f u q hu hf => ruD_congr _ _ _ fun k hk => erow 53 _ (by omega)⟩
  · show SOk (I' 62) (cl (I' 0 4))
    rw [e04]
    exact ho
  · show ImN I' R' k ∨ ImY I' R' G' (cl (I' 0 4)) k
    rw [e04]
    rcases a8 k hk with hN | ⟨y1, st, pl, y2, y3, y4, y5⟩
    · exact Or.inl ⟨(erow 70 k (by omega)).trans hN.1, (e37 k).trans hN.2⟩
    · refine Or.inr ⟨(erow 70 k (by omega)).trans y1, st, pl, (e37 k).trans y2, y3, ?_, ?_⟩
      · have e : imS I' k = imS I k := funext fun i => erow 69 _ (by omega)
        rw [e]
        have hc : cl (imS I k 1) ≤ 8 := Nat.le_of_lt_succ y5.2.1.2
        have hpl := y4.2.2.1.1
        exact y4.keep hc hg (fun p k hp hq => hi p k hp (by unfold sc1; omega)) (fun p k hp hq => hr p k hp (by omega) (by omega))
      · have e : imS I' k = imS I k := funext fun i => erow 69 _ (by omega)
        rw [e]
        exact y5
  · intro k l st su hk hl hne e1 e2
    exact a9 k l st su hk hl hne ((e37 k).symm.trans e1) ((e37 l).symm.trans e2)
/-- places that Inv doesn't see at all -/
def sc0 (p k : Nat) : Prop := (p = 9 ∧ k ≠ 1) ∨ (11 ≤ p ∧ p ≤ 15) ∨ (27 ≤ p ∧ p ≤ 36) ∨ (38 ≤ p ∧ p ≤ 50) ∨ (p = 51 ∧ k ≠ 1 ∧ k ≠ 2) ∨ p = 54 ∨ (57 ≤ p ∧ p ≤ 68 ∧ p ≠ 62)
def Kq (G : zG) (I I' : Nat → Nat → Int32) : Prop := ∀ p k, p < G.2.2.1 → ¬ sc0 p k → I' p k = I p k
def KS (G : zG) (R R' : Nat → Nat → Option Nat) : Prop := ∀ p k, p < G.2.2.1 → ¬ (p = 27 ∧ k = 0) → ¬ (p = 43 ∧ (k = 2 ∨ k = 3)) → R' p k = R p k
theorem Kq.rfl {G : zG} {I : Nat → Nat → Int32} : Kq G I I := fun _ _ _ _ => Eq.refl _
theorem KS.rfl {G : zG} {R : Nat → Nat → Option Nat} : KS G R R := fun _ _ _ _ _ => Eq.refl _
theorem Kq.trans {G : zG} {I I1 I2 : Nat → Nat → Int32} (h1 : Kq G I I1) (h2 : Kq G I1 I2) : Kq G I I2 := fun p k hp hs => (h2 p k hp hs).trans (h1 p k hp hs)
theorem KS.trans {G : zG} {I I1 I2 : Nat → Nat → Option Nat} (h1 : KS G I I1) (h2 : KS G I1 I2) : KS G I I2 := fun p k hp hs ht => (h2 p k hp hs ht).trans (h1 p k hp hs ht)
theorem inv_q {j j' : Nat} {I I' : Nat → Nat → Int32} {J J' : Nat → Nat → Int64} {R R' : Nat → Nat → Option Nat} {G : zG} (h : Inv j (I, J, R, G)) (hj : j ≤ j') (hi : Kq G I I') (hr : KS G R R') : Inv j' (I', J', R', G) := by
  have n70 : 71 ≤ G.2.2.1 := h.1.2
  have e62 : I' 62 = I 62 := funext fun k => hi 62 k (by omega) (by unfold sc0; omega)
  have h3 : G.2.2.1 ≤ 71 + 20 * j := h.2.2.1
  have h4 : G.2.2.2 ≤ 6106 + 1000 * j := h.2.2.2.1
  refine inv_of h (by omega) (by omega) Gk.rfl (fun p k hp hs => hi p k hp fun h => hs (by unfold sc0 at h; unfold sc1; omega)) (fun p k hp h1 h2 => hr p k hp (by omega) h2) ?_ ?_ ?_
  · obtain ⟨t1, t2, t3⟩ := h.2.2.2.2.1
    have f1 : I' 9 1 = I 9 1 := hi 9 1 (by omega) (by unfold sc0; omega)
    have f2 : I' 51 1 = I 51 1 := hi 51 1 (by omega) (by unfold sc0; omega)
    refine ⟨by rw [f1]; exact t1, by rw [f1, f2]; exact t2, fun k hk => ?_⟩
    rw [hi 10 k (by omega) (by unfold sc0; omega), hi 52 k (by omega) (by unfold sc0; omega)]
    exact t3 k hk
  · obtain ⟨pl, hs⟩ := h.2.2.2.2.2.2.1
    refine ⟨pl, ?_⟩
    rw [e62]
    have ho : SOk (I 62) (cl (I 0 4)) := h.2.2.2.2.2.2.2.1
    have hc : cl (I 62 1) ≤ 8 := Nat.le_of_lt_succ ho.2.1.2
    have hpl := hs.2.2.1.1
    exact StR.keep hs hc Gk.rfl (fun p k hp hq => hi p k hp (by unfold sc0; omega)) (fun p k hp hq => hr p k hp (by omega) (by omega))
  · rw [e62]
    exact h.2.2.2.2.2.2.2.1
