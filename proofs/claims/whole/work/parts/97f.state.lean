theorem insL_mem {dy : Nat → Int32} {m a : Nat} : ∀ {l : List Nat}, a ∈ insL dy m l → a = m ∨ a ∈ l := by
  intro l
  induction l with
  | nil => intro h; simp [insL] at h; exact Or.inl h
  | cons b l ih =>
    intro h
    unfold insL at h
    split at h
    · rcases List.mem_cons.mp h with h | h
      · exact Or.inr (h ▸ List.mem_cons_self)
      · rcases ih h with h | h
        · exact Or.inl h
        · exact Or.inr (List.mem_cons_of_mem _ h)
    · rcases List.mem_cons.mp h with h | h
      · exact Or.inl h
      · exact Or.inr h
theorem ordL_mem {dy : Nat → Int32} : ∀ {n a : Nat}, a ∈ ordL dy n → a < n := by
  intro n
  induction n with
  | zero => intro a h; simp [ordL] at h
  | succ n ih =>
    intro a h
    rcases insL_mem h with h | h
    · omega
    · have := ih h
      omega
theorem insL_congr {dy dy' : Nat → Int32} {m : Nat} : ∀ {l : List Nat}, (∀ a, a ∈ l → dy a = dy' a) → dy m = dy' m → insL dy m l = insL dy' m l := by
  intro l
  induction l with
  | nil => intro _ _; rfl
  | cons b l ih =>
    intro h hm
    unfold insL
    rw [h b List.mem_cons_self, hm, ih (fun a ha => h a (List.mem_cons_of_mem _ ha)) hm]
theorem ordL_congr {dy dy' : Nat → Int32} : ∀ {n : Nat}, (∀ k, k < n → dy k = dy' k) → ordL dy n = ordL dy' n := by
  intro n
  induction n with
  | zero => intro _; rfl
  | succ n ih =>
    intro h
    unfold ordL
    rw [ih fun k hk => h k (by omega), insL_congr (fun a ha => h a (by have := ordL_mem ha; omega)) (h n (by omega))]
theorem ordK_congr {dy dy' : Nat → Int32} {n k : Nat} (h : ∀ k, k < n → dy k = dy' k) : ordK dy n k = ordK dy' n k := by
  unfold ordK
  rw [ordL_congr h]
/-! THE STATE'S PLACES: what the class keeps at (P, K) the row keeps at i. -/
def fu (s : Nat → Int32) (i : Nat) (v : Int32) : Nat → Int32 := fun j => if j = i then v else s j
theorem fu_same (s : Nat → Int32) (i : Nat) (v : Int32) : fu s i v i = v := if_pos rfl
theorem fu_no (s : Nat → Int32) {i j : Nat} (v : Int32) (h : j ≠ i) : fu s i v j = s j := if_neg h
theorem z_u_row (I : Nat → Nat → Int32) (p i : Nat) (v : Int32) : z_u I p i v p = fu (I p) i v := funext fun j => by
  simp [z_u, fu]
theorem z_u_row' (I : Nat → Nat → Int32) {p q : Nat} (i : Nat) (v : Int32) (h : q ≠ p) : z_u I p i v q = I q := funext fun j => z_u_p _ _ _ _ h
def plc (st P K i : Nat) : Prop := (P = st ∧ ((K = 1 ∧ i = 3) ∨ (K = 2 ∧ i = 4) ∨ (K = 3 ∧ i = 6) ∨ (K = 4 ∧ i = 5))) ∨ (st + 2 ≤ P ∧ P < st + 10 ∧ ((K ≤ 5 ∧ i = 8 + 6 * (P - st - 2) + K) ∨ (K = 6 ∧ i = 131 + (P - st - 2))))
theorem StR.up {I : Nat → Nat → Int32} {R : Nat → Nat → Option Nat} {G : zG} {st pl : Nat} {s : Nat → Int32} {P K i : Nat} (v : Int32) (h : StR I R G st pl s) (h8 : cl (s 1) ≤ 8) (hp : P < pl ∨ pl + 8 ≤ P) (hc : plc st P K i) (hm : cl (s 2) ≤ 25) : StR (z_u I P K v) R G st pl (fu s i v) := by
  obtain ⟨a, b, c, ⟨d1, d2, d3, d4, d5⟩, e1, e2, e3, e4, e5⟩ := h
  have i3 : i = 3 ∨ i = 4 ∨ i = 6 ∨ i = 5 ∨ (8 ≤ i ∧ i < 56) ∨ (131 ≤ i ∧ i < 139) := by unfold plc at hc; omega
  have key : ∀ p k j, plc st p k j → I p k = s j → z_u I P K v p k = fu s i v j := by
    intro p k j hj e
    by_cases q : p = P ∧ k = K
    · obtain ⟨rfl, rfl⟩ := q
      have : j = i := by unfold plc at hj hc; omega
      subst this
      rw [z_u_same, fu_same]
    · have : j ≠ i := by unfold plc at hj hc; omega
      rw [fu_no _ _ this]
      exact (if_neg q).trans e
  have f1 : fu s i v 1 = s 1 := fu_no _ _ (by omega)
  have f2 : fu s i v 2 = s 2 := fu_no _ _ (by omega)
  refine ⟨a, b, c, ⟨?_, ?_, ?_, ?_, fun m hm' => ?_⟩, key _ _ _ (by unfold plc; omega) e1, key _ _ _ (by unfold plc; omega) e2, key _ _ _ (by unfold plc; omega) e3, key _ _ _ (by unfold plc; omega) e4, fun c hc' => ?_⟩
  · rw [fu_no _ _ (by omega)]; exact (z_u_p _ _ _ _ (by omega)).trans d1
  · rw [fu_no _ _ (by omega)]; exact (z_u_p _ _ _ _ (by omega)).trans d2
  · rw [f1]; exact (z_u_p _ _ _ _ (by omega)).trans d3
  · rw [f2]; exact (z_u_p _ _ _ _ (by omega)).trans d4
  · rw [f2] at hm'
    have m25 : m < 25 := by omega
    obtain ⟨g1, g2, g3, g4⟩ := d5 m hm'
    refine ⟨?_, ?_, ?_, ?_⟩
    · rw [fu_no _ _ (by omega)]; exact (z_u_p _ _ _ _ (by omega)).trans g1
    · rw [fu_no _ _ (by omega)]; exact (z_u_p _ _ _ _ (by omega)).trans g2
    · rw [fu_no _ _ (by omega)]; exact (z_u_p _ _ _ _ (by omega)).trans g3
    · rw [f2, ordK_congr (dy' := fun m => s (56 + 3 * m)) fun k hk => fu_no _ _ (by omega)]
      exact (z_u_p _ _ _ _ (by omega)).trans g4
  · rw [f1] at hc'
    obtain ⟨g0, g1, g2, g3, g4, g5, g6⟩ := e5 c hc'
    exact ⟨key _ _ _ (by unfold plc; omega) g0, key _ _ _ (by unfold plc; omega) g1, key _ _ _ (by unfold plc; omega) g2, key _ _ _ (by unfold plc; omega) g3, key _ _ _ (by unfold plc; omega) g4, key _ _ _ (by unfold plc; omega) g5, key _ _ _ (by unfold plc; omega) g6⟩
/-- places of now and of row 62, and all that Inv doesn't see -/
def sc2 (p k : Nat) : Prop := sc0 p k ∨ p = 62 ∨ (17 ≤ p ∧ p ≤ 26)
theorem inv_st {j j' : Nat} {I I' : Nat → Nat → Int32} {J J' : Nat → Nat → Int64} {R R' : Nat → Nat → Option Nat} {G : zG} (h : Inv j (I, J, R, G)) (hj : j ≤ j') (hi : ∀ p k, p < G.2.2.1 → ¬ sc2 p k → I' p k = I p k) (hr : KR G R R') (hs : ∃ pl, StR I' R' G 17 pl (I' 62)) (ho : SOk (I' 62) (cl (I 0 4))) : Inv j' (I', J', R', G) := by
  have n70 : 71 ≤ G.2.2.1 := h.1.2
  have h3 : G.2.2.1 ≤ 71 + 20 * j := h.2.2.1
  have h4 : G.2.2.2 ≤ 6106 + 1000 * j := h.2.2.2.1
  refine inv_of h (by omega) (by omega) Gk.rfl (fun p k hp hs => hi p k hp fun h => hs (by unfold sc2 sc0 at h; unfold sc1; omega)) hr ?_ hs ho
  obtain ⟨t1, t2, t3⟩ := h.2.2.2.2.1
  have f1 : I' 9 1 = I 9 1 := hi 9 1 (by omega) (by unfold sc2 sc0; omega)
  have f2 : I' 51 1 = I 51 1 := hi 51 1 (by omega) (by unfold sc2 sc0; omega)
  refine ⟨by rw [f1]; exact t1, by rw [f1, f2]; exact t2, fun k hk => ?_⟩
  rw [hi 10 k (by omega) (by unfold sc2 sc0; omega), hi 52 k (by omega) (by unfold sc2 sc0; omega)]
  exact t3 k hk
/-- one place alone is told anew on both sides -/
theorem inv_1 {j : Nat} {I I' : Nat → Nat → Int32} {J J' : Nat → Nat → Int64} {R : Nat → Nat → Option Nat} {G : zG} {P K i : Nat} {v : Int32} (h : Inv j (I, J, R, G)) (hc : plc 17 P K i) (e : I' = z_u (z_u I P K v) 62 i v) (ho : SOk (fu (I 62) i v) (cl (I 0 4))) : Inv (j + 1) (I', J', R, G) := by
  subst e
  obtain ⟨pl, hs⟩ : ∃ pl, StR I R G 17 pl (I 62) := h.2.2.2.2.2.2.1
  have hO : SOk (I 62) (cl (I 0 4)) := h.2.2.2.2.2.2.2.1
  have hpl := hs.2.2.1.1
  have hP : 17 ≤ P ∧ P ≤ 26 := by unfold plc at hc; omega
  have e62 : z_u (z_u I P K v) 62 i v 62 = fu (I 62) i v := by
    rw [z_u_row, z_u_row' _ _ _ (by omega)]
  have h8 : cl (fu (I 62) i v 1) ≤ 8 := Nat.le_of_lt_succ ho.2.1.2
  refine inv_st h (by omega) (fun p k hp hs => ?_) KR.rfl ⟨pl, ?_⟩ ?_
  · unfold sc2 at hs
    exact (z_u_p _ _ _ _ (by omega)).trans (z_u_p _ _ _ _ (by omega))
  · rw [e62]
    have h1 := hs.up v (Nat.le_of_lt_succ hO.2.1.2) (by omega) hc (Nat.le_of_lt hO.2.2.1.2)
    exact h1.keep h8 Gk.rfl (fun p k hp hq => z_u_p _ _ _ _ (by omega)) (fun p k hp hq => rfl)
  · rw [e62]
    exact ho
theorem CoinOk.congr {s s' : Nat → Int32} {c : Nat} (h : CoinOk s c) (h0 : s' 0 = s 0) (hf : ∀ k, k < 6 → s' (8 + 6 * c + k) = s (8 + 6 * c + k)) (ht : s' (131 + c) = s (131 + c)) (h3 : cl (s 3) ≤ cl (s' 3)) : CoinOk s' c := by
  unfold CoinOk at h ⊢
  have f0 : s' (8 + 6 * c) = s (8 + 6 * c) := hf 0 (by omega)
  rw [h0, f0, hf 1 (by omega), hf 2 (by omega), hf 3 (by omega), hf 4 (by omega), ht]
  obtain ⟨a1, a2, a3, a4, a5, a6, a7, a8, a9⟩ := h
  exact ⟨a1, a2, a3, a4, a5, a6, by omega, a8, a9⟩
theorem SOk.congr {s s' : Nat → Int32} {rn : Nat} (h : SOk s rn) (h0 : s' 0 = s 0) (h1 : s' 1 = s 1) (h2 : s' 2 = s 2) (h7 : s' 7 = s 7) (h3 : Rg (s' 3) 20000) (h5 : Rg (s' 5) (2 ^ 31)) (h6 : s' 6 = -1 ∨ Rg (s' 6) rn) (hc : ∀ c, c < cl (s 1) → CoinOk s' c) (hm : ∀ i, 56 ≤ i → i < 131 → s' i = s i) : SOk s' rn := by
  obtain ⟨a1, a2, a3, a4, a5, a6, a7, a8, a9⟩ := h
  refine ⟨by rw [h0]; exact a1, by rw [h1]; exact a2, by rw [h2]; exact a3, h3, h5, h6, by rw [h7]; exact a7, by rw [h1]; exact hc, ?_⟩
  rw [h2]
  intro m hm'
  have := a3.2
  have g := a9 m hm'
  unfold MeetOk at g ⊢
  rw [h0, hm _ (by omega) (by omega), hm (56 + 3 * m + 1) (by omega) (by omega), hm (56 + 3 * m + 2) (by omega) (by omega)]
  exact g
theorem so_5 {s : Nat → Int32} {rn : Nat} {v : Int32} (h : SOk s rn) (hv : Rg v (2 ^ 31)) : SOk (fu s 5 v) rn := by
  have n : ∀ j, j ≠ 5 → fu s 5 v j = s j := fun j hj => fu_no _ _ hj
  refine h.congr (n _ (by omega)) (n _ (by omega)) (n _ (by omega)) (n _ (by omega)) (by rw [n _ (by omega)]; exact h.2.2.2.1) (by rw [fu_same]; exact hv) (by rw [n _ (by omega)]; exact h.2.2.2.2.2.1) (fun c hc => ?_) (fun i _ _ => n _ (by omega))
  exact (h.2.2.2.2.2.2.2.1 c hc).congr (n _ (by omega)) (fun k hk => n _ (by omega)) (n _ (by omega)) (by rw [n _ (by omega)]; exact Nat.le_refl _)
theorem so_6 {s : Nat → Int32} {rn : Nat} {v : Int32} (h : SOk s rn) (hv : v = -1 ∨ Rg v rn) : SOk (fu s 6 v) rn := by
  have n : ∀ j, j ≠ 6 → fu s 6 v j = s j := fun j hj => fu_no _ _ hj
  refine h.congr (n _ (by omega)) (n _ (by omega)) (n _ (by omega)) (n _ (by omega)) (by rw [n _ (by omega)]; exact h.2.2.2.1) (by rw [n _ (by omega)]; exact h.2.2.2.2.1) (by rw [fu_same]; exact hv) (fun c hc => ?_) (fun i _ _ => n _ (by omega))
  exact (h.2.2.2.2.2.2.2.1 c hc).congr (n _ (by omega)) (fun k hk => n _ (by omega)) (n _ (by omega)) (by rw [n _ (by omega)]; exact Nat.le_refl _)
theorem so_3 {s : Nat → Int32} {rn : Nat} {v : Int32} (h : SOk s rn) (hv : Rg v 20000) (hl : cl (s 3) ≤ cl v) : SOk (fu s 3 v) rn := by
  have n : ∀ j, j ≠ 3 → fu s 3 v j = s j := fun j hj => fu_no _ _ hj
  refine h.congr (n _ (by omega)) (n _ (by omega)) (n _ (by omega)) (n _ (by omega)) (by rw [fu_same]; exact hv) (by rw [n _ (by omega)]; exact h.2.2.2.2.1) (by rw [n _ (by omega)]; exact h.2.2.2.2.2.1) (fun c hc => ?_) (fun i _ _ => n _ (by omega))
  exact (h.2.2.2.2.2.2.2.1 c hc).congr (n _ (by omega)) (fun k hk => n _ (by omega)) (n _ (by omega)) (by rw [fu_same]; exact hl)
theorem so_told {s : Nat → Int32} {rn c : Nat} {v : Int32} (h : SOk s rn) (hv : v = -1 ∨ Rg v 2) (hc : c < cl (s 1)) : SOk (fu s (131 + c) v) rn := by
  have c8 := h.2.1.2
  have n : ∀ j, j ≠ 131 + c → fu s (131 + c) v j = s j := fun j hj => fu_no _ _ hj
  refine h.congr (n _ (by omega)) (n _ (by omega)) (n _ (by omega)) (n _ (by omega)) (by rw [n _ (by omega)]; exact h.2.2.2.1) (by rw [n _ (by omega)]; exact h.2.2.2.2.1) (by rw [n _ (by omega)]; exact h.2.2.2.2.2.1) (fun e he => ?_) (fun i _ _ => n _ (by omega))
  have g := h.2.2.2.2.2.2.2.1 e he
  by_cases q : e = c
  · subst q
    unfold CoinOk at g ⊢
    rw [n 0 (by omega), n 3 (by omega), n (8 + 6 * e) (by omega), n (8 + 6 * e + 1) (by omega), n (8 + 6 * e + 2) (by omega), n (8 + 6 * e + 3) (by omega), n (8 + 6 * e + 4) (by omega), fu_same]
    obtain ⟨a1, a2, a3, a4, a5, a6, a7, a8, a9⟩ := g
    exact ⟨a1, a2, a3, a4, a5, hv, a7, a8, a9⟩
  · exact g.congr (n _ (by omega)) (fun k hk => n _ (by omega)) (n _ (by omega)) (by rw [n _ (by omega)]; exact Nat.le_refl _)
