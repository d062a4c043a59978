/-! STRANGERS: the best set. -/
theorem fdL_sup {w1 w2 : Nat → Nat} {s : Nat → Int32} {g q : Nat} : ∀ {l : List Nat} {r : Nat}, r.testBit q = true → (fdL w1 w2 s g l r).2.testBit q = true := by
  intro l
  induction l with
  | nil => intro r h; exact h
  | cons j l ih =>
    intro r h
    rw [fdL]
    split
    · exact ih h
    · split
      · exact h
      · exact ih (fdS_bit.mpr (Or.inl h))
theorem FDk_sup {b : Nat → Nat → Int32} {s : Nat → Int32} {c g : Nat} : (FDk b s c g).2.testBit (cl (s (8 + 6 * c + 1))) = true := by
  have h1 : (2 ^ cl (s (8 + 6 * c + 1))).testBit (cl (s (8 + 6 * c + 1))) = true := by simp
  unfold FDk FD
  split
  · exact h1
  · unfold FDc
    rw [fdC_L (w1 := fun j => wyV (baB b (s 6)) s (cl (s 1)) (nI c) (s (8 + 6 * c)) (s (8 + 6 * c + 2)) (s 3) (cl (s (8 + 6 * c + 3))) (mA s j) (mB s j) (s (56 + 3 * j))) (w2 := fun j => wyV (baB b (s 6)) s (cl (s 1)) (nI c) (s (8 + 6 * c)) (s (8 + 6 * c + 2)) (s 3) (cl (s (8 + 6 * c + 3))) (mB s j) (mA s j) (s (56 + 3 * j))) (s := s) (m := cl (s 2)) (cl (s 2)) 0 _ (by omega)]
    exact fdL_sup h1
theorem tch_all {k : Nat} : ∀ {L : List Nat}, (∀ t, t ∈ L → ¬ t &&& k = 0) → tch L k = true := by
  intro L
  induction L with
  | nil => intro _; rfl
  | cons t T ih =>
    intro h
    rw [tch_1 (h t List.mem_cons_self)]
    exact ih fun u hu => h u (List.mem_cons_of_mem _ hu)
theorem rcL_ev {b : Nat → Nat → Int32} {s : Nat → Int32} {rn P : Nat} (h : SOk s rn) (hP : cl (s 0) = P) : ∀ c, c ≤ cl (s 1) → tch (rcL b s c) (2 ^ P - 1) = true := by
  intro c hc
  refine tch_all fun t ht => ?_
  have : ∀ c, c ≤ cl (s 1) → ∀ t, t ∈ rcL b s c → ∃ p, p < P ∧ t.testBit p = true := by
    intro c
    induction c with
    | zero => intro _ t h; simp [rcL] at h
    | succ c ih =>
      intro hc t ht
      unfold rcL at ht
      split at ht
      · rcases List.mem_append.mp ht with k | k
        · exact ih (by omega) t k
        · have k : t = (FDk b s c 0).2 := by simpa using k
          have g := (h.2.2.2.2.2.2.2.1 c (by omega)).2.1.2
          exact ⟨cl (s (8 + 6 * c + 1)), by omega, by rw [k]; exact FDk_sup⟩
      · exact ih (by omega) t ht
  obtain ⟨p, p1, p2⟩ := this c hc t ht
  intro e
  have q : (t &&& (2 ^ P - 1)).testBit p = true := by
    rw [Nat.testBit_and, p2, Nat.testBit_two_pow_sub_one, Bool.true_and]
    exact decide_eq_true p1
  rw [e] at q
  simp at q
def evB (P k : Nat) : Bool := decide (k < 2 ^ P - 1 → popc k < popc (2 ^ P - 1))
theorem ev_all : (List.range 11).all (fun P => (List.range 1024).all (fun k => evB P k)) = true := by decide +kernel
theorem popc_ev {P k : Nat} (hP : P < 11) (hk : k < 2 ^ P - 1) : popc k < popc (2 ^ P - 1) := by
  have h1 := List.all_eq_true.mp ev_all P (List.mem_range.mpr hP)
  have h2 := List.all_eq_true.mp h1 k (List.mem_range.mpr (by have : 2 ^ P ≤ 2 ^ 10 := Nat.pow_le_pow_right (by omega) (by omega); omega))
  exact of_decide_eq_true h2 hk
def bsC (L : List Nat) (k b : Nat) : Nat := if popc k < popc b ∧ tch L k = true then k else b
def bsD (L : List Nat) (k : Nat) (o : Option Nat) : Option Nat := if (∀ b, o = some b → popc k < popc b) ∧ tch L k = true then some k else o
theorem bs_eq {L : List Nat} {P : Nat} (hP : P < 11) : ∀ (f i b : Nat) (o : Option Nat), i + f ≤ 2 ^ P - 1 → b = o.getD (2 ^ P - 1) → (∀ c, o = some c → c < 2 ^ P - 1) → foL (bsC L) i f b = (foL (bsD L) i f o).getD (2 ^ P - 1) ∧ ∀ c, foL (bsD L) i f o = some c → c < 2 ^ P - 1 := by
  intro f
  induction f with
  | zero => intro i b o _ h1 h2; exact ⟨h1, h2⟩
  | succ f ih =>
    intro i b o hi h1 h2
    rw [foL_s, foL_s]
    have hii : popc i < popc (2 ^ P - 1) := popc_ev hP (by omega)
    refine ih (i + 1) _ _ (by omega) ?_ ?_
    · unfold bsC bsD
      cases o with
      | none =>
        have h1 : b = 2 ^ P - 1 := h1
        by_cases t : tch L i = true
        · rw [if_pos ⟨by rw [h1]; exact hii, t⟩, if_pos ⟨fun b hb => (by cases hb), t⟩]; rfl
        · rw [if_neg (fun q => t q.2), if_neg (fun q => t q.2)]; exact h1
      | some c =>
        have h1 : b = c := h1
        by_cases t : popc i < popc c ∧ tch L i = true
        · rw [if_pos (by rw [h1]; exact t), if_pos ⟨fun b hb => by cases hb; exact t.1, t.2⟩]; rfl
        · rw [if_neg (by rw [h1]; exact t), if_neg (fun q => t ⟨q.1 c rfl, q.2⟩)]; exact h1
    · intro c hc
      unfold bsD at hc
      split at hc
      · cases hc; omega
      · exact h2 c hc
theorem bs_last {L : List Nat} {P : Nat} {o : Option Nat} (hP : P < 11) (ht : tch L (2 ^ P - 1) = true) (h2 : ∀ c, o = some c → c < 2 ^ P - 1) : bsD L (2 ^ P - 1) o = some (o.getD (2 ^ P - 1)) := by
  unfold bsD
  cases o with
  | none => rw [if_pos ⟨fun b hb => (by cases hb), ht⟩]; rfl
  | some c =>
    have := popc_ev hP (h2 c rfl)
    rw [if_neg (fun q => by have := q.1 c rfl; omega)]
    rfl
def oI : Option Nat → Int32
  | none => -1
  | some b => nI b
theorem lp_bsC {x : Nat × (Nat → Int32)} {d : Nat} {I : Nat → Nat → Int32} {J : Nat → Nat → Int64} {R : Nat → Nat → Option Nat} {G : zG} {E : Nat} {L : List Nat} (hR : Rs R) (hS : Sh G) (hE : E < 1024) (hc : L.length ≤ 8) (hL : RwL I 49 L) : ∀ (f i : Nat) (b : Nat), i + f = E → b < 1024 → zOk x (d + 1) 87 85 [.ref 0, .int (nI L.length), .int (nI E), .int (nI b), .int (nI i)] [] (I, J, R, G) (fun v m => v = some (.int (nI (foL (bsC L) i f b))) ∧ m = (I, J, R, G)) := by
  intro f
  induction f with
  | zero =>
    intro i b hi hz
    have hz := hz
    refine k_iload f87_85 rfl ?_
    refine k_iload f87_87 rfl ?_
    refine k_ic_ge f87_88 (fun _ => ?_) (fun h_ => absurd (nI_le (by omega) (by omega)) h_)
    refine k_iload f87_122 rfl ?_
    exact k_iret f87_123 rfl ⟨rfl, rfl⟩
  | succ f ih =>
    intro i b hi hz
    have hz := hz
    have hin : i < E := by omega
    by_cases hp : popc b ≤ popc i
    · refine k_iload f87_85 rfl ?_
      refine k_iload f87_87 rfl ?_
      refine k_ic_ge f87_88 (fun h_ => absurd h_ (nI_ge hin (by omega))) (fun _ => ?_)
      refine k_iload f87_91 rfl ?_
      refine e_s (as := [.int (nI i)]) (rest := []) f87_93 rfl rfl rfl (s_bitCount (k := i) (by omega)) ?_
      refine k_iload f87_96 rfl ?_
      refine e_s (as := [.int (nI b)]) (rest := [.int (nI (popc i))]) f87_97 rfl rfl rfl (s_bitCount (k := b) (by omega)) ?_
      refine k_ic_ge f87_100 (fun _ => ?_) (fun h_ => absurd ((nI_leI (by have := popc_le b (by omega); omega) (by have := popc_le i (by omega); omega)).mpr hp) h_)
      refine k_iinc (w := nI (i + 1)) (L' := [.ref 0, .int (nI L.length), .int (nI E), .int (nI b), .int (nI (i + 1))]) f87_116 rfl (nI_1 i) rfl rfl ?_
      refine k_goto f87_119 ?_
      rw [foL_s, show bsC L i b = b from if_neg (fun q => by have := q.1; omega)]
      exact ih (i + 1) b (by omega) (by omega)
    · by_cases ht : tch L i = true
      · refine k_iload f87_85 rfl ?_
        refine k_iload f87_87 rfl ?_
        refine k_ic_ge f87_88 (fun h_ => absurd h_ (nI_ge hin (by omega))) (fun _ => ?_)
        refine k_iload f87_91 rfl ?_
        refine e_s (as := [.int (nI i)]) (rest := []) f87_93 rfl rfl rfl (s_bitCount (k := i) (by omega)) ?_
        refine k_iload f87_96 rfl ?_
        refine e_s (as := [.int (nI b)]) (rest := [.int (nI (popc i))]) f87_97 rfl rfl rfl (s_bitCount (k := b) (by omega)) ?_
        refine k_ic_ge f87_100 (fun h_ => absurd h_ ((fun q => hp ((nI_leI (by have := popc_le b (by omega); omega) (by have := popc_le i (by omega); omega)).mp q)))) (fun _ => ?_)
        refine k_aload f87_103 rfl ?_
        refine k_iload f87_104 rfl ?_
        refine k_iload f87_106 rfl ?_
        refine e_v (as := [.int (nI L.length), .int (nI i)]) (rest := []) f87_107 hS.o0 rfl rfl rfl (s_touch (k := i) (L := L) hR hS (by omega) hc hL) ?_
        refine k_beq f87_110 (fun h_ => absurd (ht) h_) (fun _ => ?_)
        refine k_iload f87_113 rfl ?_
        refine k_istore (L' := [.ref 0, .int (nI L.length), .int (nI E), .int (nI i), .int (nI i)]) f87_115 rfl rfl ?_
        refine k_iinc (w := nI (i + 1)) (L' := [.ref 0, .int (nI L.length), .int (nI E), .int (nI i), .int (nI (i + 1))]) f87_116 rfl (nI_1 i) rfl rfl ?_
        refine k_goto f87_119 ?_
        rw [foL_s, show bsC L i b = i from if_pos ⟨by omega, ht⟩]
        exact ih (i + 1) i (by omega) (by omega)
      · refine k_iload f87_85 rfl ?_
        refine k_iload f87_87 rfl ?_
        refine k_ic_ge f87_88 (fun h_ => absurd h_ (nI_ge hin (by omega))) (fun _ => ?_)
        refine k_iload f87_91 rfl ?_
        refine e_s (as := [.int (nI i)]) (rest := []) f87_93 rfl rfl rfl (s_bitCount (k := i) (by omega)) ?_
        refine k_iload f87_96 rfl ?_
        refine e_s (as := [.int (nI b)]) (rest := [.int (nI (popc i))]) f87_97 rfl rfl rfl (s_bitCount (k := b) (by omega)) ?_
        refine k_ic_ge f87_100 (fun h_ => absurd h_ ((fun q => hp ((nI_leI (by have := popc_le b (by omega); omega) (by have := popc_le i (by omega); omega)).mp q)))) (fun _ => ?_)
        refine k_aload f87_103 rfl ?_
        refine k_iload f87_104 rfl ?_
        refine k_iload f87_106 rfl ?_
        refine e_v (as := [.int (nI L.length), .int (nI i)]) (rest := []) f87_107 hS.o0 rfl rfl rfl (s_touch (k := i) (L := L) hR hS (by omega) hc hL) ?_
        refine k_beq f87_110 (fun _ => ?_) (fun h_ => (absurd h_ (ht)))
        refine k_iinc (w := nI (i + 1)) (L' := [.ref 0, .int (nI L.length), .int (nI E), .int (nI b), .int (nI (i + 1))]) f87_116 rfl (nI_1 i) rfl rfl ?_
        refine k_goto f87_119 ?_
        rw [foL_s, show bsC L i b = b from if_neg (fun q => ht q.2)]
        exact ih (i + 1) b (by omega) (by omega)
