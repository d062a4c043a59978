/-! WAYS laid, in the class. -/
theorem insL_len {dy : Nat → Int32} {m : Nat} : ∀ {l : List Nat}, (insL dy m l).length = l.length + 1 := by
  intro l
  induction l with
  | nil => rfl
  | cons a l ih =>
    unfold insL
    split
    · simp [ih]
    · simp
theorem ordL_len {dy : Nat → Int32} : ∀ n, (ordL dy n).length = n := by
  intro n
  induction n with
  | zero => rfl
  | succ n ih => unfold ordL; rw [insL_len, ih]
theorem ordK_lt {dy : Nat → Int32} {n k : Nat} (h : k < n) : ordK dy n k < n := by
  unfold ordK
  have hl : n - 1 - k < (ordL dy n).length := by rw [ordL_len]; omega
  rw [List.getD_eq_getElem?_getD, List.getElem?_eq_getElem hl]
  exact ordL_mem (List.getElem_mem hl)
/-- what WAYS know -/
def WB (I : Nat → Nat → Int32) (R : Nat → Nat → Option Nat) (G : zG) (pl q : Nat) (s : Nat → Int32) (bo : Option Nat) (f nu wo sp fr : Int32) (p h : Nat) : Prop :=
  StR I R G 17 pl s ∧ BR I R G bo f ∧ I q 0 = wo ∧ I q 1 = nI p ∧ I q 2 = sp ∧ I q 3 = nI h ∧ I 43 4 = nu ∧ I 43 5 = fr
theorem BR.kr {I I' : Nat → Nat → Int32} {R : Nat → Nat → Option Nat} {G : zG} {bo : Option Nat} {f : Int32} (h : BR I R G bo f) (k : Kr I I') : BR I' R G bo f := by
  rcases h with h | ⟨t, r, h1, h2, h3, h4⟩
  · exact Or.inl h
  · exact Or.inr ⟨t, r, h1, h2, h3, h4.kr k⟩
theorem WB.keep {I I' : Nat → Nat → Int32} {R : Nat → Nat → Option Nat} {G : zG} {pl q : Nat} {s : Nat → Int32} {bo : Option Nat} {f nu wo sp fr : Int32} {p h : Nat} (w : WB I R G pl q s bo f nu wo sp fr p h) (h8 : cl (s 1) ≤ 8) (hq : q = 38 ∨ (19 ≤ q ∧ q ≤ 26)) (hi : ∀ p k, ¬ (44 ≤ p ∧ p ≤ 46) → ¬ (p = 43 ∧ (k = 6 ∨ k = 9)) → I' p k = I p k) : WB I' R G pl q s bo f nu wo sp fr p h := by
  obtain ⟨a, b, c, d, e, g, i, j⟩ := w
  have hpl := a.2.2.1.1
  refine ⟨a.keep h8 Gk.rfl (fun p k _ hp => hi p k (by omega) (by omega)) (fun _ _ _ _ => rfl), b.kr fun p k hp => hi p k (by omega) (by omega), ?_, ?_, ?_, ?_, ?_, ?_⟩
  · rw [hi _ _ (by omega) (by omega)]; exact c
  · rw [hi _ _ (by omega) (by omega)]; exact d
  · rw [hi _ _ (by omega) (by omega)]; exact e
  · rw [hi _ _ (by omega) (by omega)]; exact g
  · rw [hi _ _ (by omega) (by omega)]; exact i
  · rw [hi _ _ (by omega) (by omega)]; exact j
def opn (s : Nat → Int32) (sp fr th : Int32) : Prop := fr - sp ≤ s 7 ∧ ¬ th < fr ∧ th - sp ≤ s 7
def wyV (ba : (Nat → Int64) → Bool) (s : Nat → Int32) (n : Nat) (nu wo sp fr : Int32) (h a b : Nat) (th : Int32) : Nat := if fr - sp ≤ s 7 ∧ ¬ th < fr ∧ th - sp ≤ s 7 then stV ba s n nu wo sp h a b th else 0
def mA (s : Nat → Int32) (j : Nat) : Nat := cl (s (56 + 3 * j + 1))
def mB (s : Nat → Int32) (j : Nat) : Nat := cl (s (56 + 3 * j + 2))
def mO (s : Nat → Int32) (m k : Nat) : Nat := ordK (fun i => s (56 + 3 * i)) m k
def hoN (ba : (Nat → Int64) → Bool) (s : Nat → Int32) (n : Nat) (nu wo sp fr fe : Int32) (p h : Nat) : Prop := fr - sp ≤ s 7 ∧ ¬ fe = 0 ∧ ¬ ba (gW s n nu wo (fr - sp) h True (nI p) (nI p) fr) = true
def WL (ba : (Nat → Int64) → Bool) (I : Nat → Nat → Int32) (s : Nat → Int32) (n m : Nat) (nu wo sp fr : Int32) (h i : Nat) : Prop := ∀ k, k < i → I 44 k = nI (wyV ba s n nu wo sp fr h (mA s (mO s m k)) (mB s (mO s m k)) (s (56 + 3 * mO s m k))) ∧ I 45 k = nI (wyV ba s n nu wo sp fr h (mB s (mO s m k)) (mA s (mO s m k)) (s (56 + 3 * mO s m k)))
theorem lp_lay {x : Nat × (Nat → Int32)} {d : Nat} {R : Nat → Nat → Option Nat} {G : zG} {I0 : Nat → Nat → Int32} {pl q n m h p : Nat} {s : Nat → Int32} {bo : Option Nat} {fo nu wo sp fr : Int32} (hR : Rs R) (hS : Sh G) (hn : s 1 = nI n) (hn8 : n ≤ 8) (hmw : MW s m) (hm24 : m ≤ 24) (h11 : cl (s 0) < 11) (r2 : R 43 2 = bo) (r3 : R 43 3 = some q) (hq : zo G q 1) (hq2 : q = 38 ∨ (19 ≤ q ∧ q ≤ 26)) (hh : h < 1024) : ∀ (f i : Nat) (I : Nat → Nat → Int32) (J : Nat → Nat → Int64) (ub u7 u8 u9 : Value), i + f = m → (WB I R G pl q s bo fo nu wo sp fr p h ∧ (∀ p k, ¬ (p = 44 ∨ p = 45) → I p k = I0 p k) ∧ WL (baB I0 fo) I s n m nu wo sp fr h i) → zOk x (d + 5) 63 75 [.ref 43, ub, .ref q, .int (nu), .int (fr), .ref pl, .int (nI i), u7, u8, u9] [] (I, J, R, G) (fun v mm => v = none ∧ ∃ I' J', mm = (I', J', R, G) ∧ WB I' R G pl q s bo fo nu wo sp fr p h ∧ (∀ p k, ¬ (p = 44 ∨ p = 45) → I' p k = I0 p k) ∧ WL (baB I0 fo) I' s n m nu wo sp fr h m) := by
  intro f
  induction f with
  | zero =>
    intro i I J ub u7 u8 u9 hi hz
    obtain ⟨hw, hfr, hwl⟩ := hz
    have hst := hw.1
    have hpl := hst.2.2.1.1
    have h8 : cl (s 1) ≤ 8 := by rw [hn, cl_nI (by omega)]; exact hn8
    have kr0 : Kr I0 I := fun p k hp => hfr p k (by omega)
    refine k_iload f63_75 rfl ?_
    refine k_aload f63_77 rfl ?_
    refine k_gI (w := nI m) f63_79 hst.2.2.1.2.1 rfl (hst.2.2.2.1.2.2.2.1.trans hmw.1) ?_
    refine k_ic_ge f63_82 (fun _ => ?_) (fun h_ => absurd (nI_le (by omega) (by omega)) h_)
    exact k_vret f63_219 ⟨rfl, I, J, rfl, hw, hfr, (show i = m by omega) ▸ hwl⟩
  | succ f ih =>
    intro i I J ub u7 u8 u9 hi hz
    obtain ⟨hw, hfr, hwl⟩ := hz
    have hst := hw.1
    have hpl := hst.2.2.1.1
    have h8 : cl (s 1) ≤ 8 := by rw [hn, cl_nI (by omega)]; exact hn8
    have kr0 : Kr I0 I := fun p k hp => hfr p k (by omega)
    have hin : i < m := by omega
    obtain ⟨j, ej⟩ : ∃ j, j = mO s m i := ⟨_, rfl⟩
    have hj : j < m := by rw [ej]; exact ordK_lt hin
    have c2 : cl (s 2) = m := by rw [hmw.1, cl_nI (by omega)]
    have mt := hst.2.2.2.1.2.2.2.2 j (by omega)
    have mk : I (pl + 7) i = nI j := by
      have := (hst.2.2.2.1.2.2.2.2 i (by omega)).2.2.2
      rw [c2] at this
      rw [this, ej]
      rfl
    have hmj := hmw.2.2 j hj
    obtain ⟨a, ea⟩ : ∃ a, a = mA s j := ⟨_, rfl⟩
    obtain ⟨b, eb⟩ : ∃ b, b = mB s j := ⟨_, rfl⟩
    have va : s (56 + 3 * j + 1) = nI a := by rw [ea]; exact hmj.1.1
    have vb : s (56 + 3 * j + 2) = nI b := by rw [eb]; exact hmj.2.1.1
    have la : a < 10 := by have := hmj.1.2; rw [ea]; unfold mA; omega
    have lb : b < 10 := by have := hmj.2.1.2; rw [eb]; unfold mB; omega
    obtain ⟨th, eth⟩ : ∃ th, th = s (56 + 3 * j) := ⟨_, rfl⟩
    have v0 : s (56 + 3 * j) = th := eth.symm
    by_cases g1 : fr - sp ≤ s 7
    · by_cases g2 : th < fr
      · have op : ¬ (fr - sp ≤ s 7 ∧ ¬ th < fr ∧ th - sp ≤ s 7) := fun k => k.2.1 g2
        refine k_iload f63_75 rfl ?_
        refine k_aload f63_77 rfl ?_
        refine k_gI (w := nI m) f63_79 hst.2.2.1.2.1 rfl (hst.2.2.2.1.2.2.2.1.trans hmw.1) ?_
        refine k_ic_ge f63_82 (fun h_ => absurd h_ (nI_ge hin (by omega))) (fun _ => ?_)
        refine k_aload f63_85 rfl ?_
        refine k_getr (q := pl + 7) f63_87 hst.2.2.1.2.1 rfl (hst.2.2.1.2.2.1 6 (by omega)) ?_
        refine k_iload f63_90 rfl ?_
        refine k_ia (k := i) (w := nI j) f63_92 (hst.2.2.1.2.2.2.2 3 (by omega)) rfl (by omega) (by decide) mk ?_
        refine k_istore (L' := [.ref 43, ub, .ref q, .int (nu), .int (fr), .ref pl, .int (nI i), .int (nI j), u8, u9]) f63_93 rfl rfl ?_
        refine k_aload f63_95 rfl ?_
        refine k_getr (q := pl + 4) f63_97 hst.2.2.1.2.1 rfl (hst.2.2.1.2.2.1 3 (by omega)) ?_
        refine k_iload f63_100 rfl ?_
        refine k_ia (k := j) (w := th) f63_102 (hst.2.2.1.2.2.2.2 0 (by omega)) rfl (by omega) (by decide) (mt.1.trans v0) ?_
        refine k_istore (L' := [.ref 43, ub, .ref q, .int (nu), .int (fr), .ref pl, .int (nI i), .int (nI j), .int (th), u9]) f63_103 rfl rfl ?_
        refine k_aload f63_105 rfl ?_
        refine k_iload f63_106 rfl ?_
        refine e_v (as := [.int (fr)]) (rest := []) f63_108 hS.o43 rfl rfl rfl (s_isGood (sp := sp) hR hS hst r3 hq hw.2.2.2.2.1) ?_
        refine k_beq f63_111 (fun h_ => absurd (g1) h_) (fun _ => ?_)
        refine k_iload f63_114 rfl ?_
        refine k_iload f63_116 rfl ?_
        refine k_ic_lt f63_118 (fun _ => ?_) (fun h_ => absurd (g2) h_)
        refine k_iconst (v := 0) f63_134 rfl ?_
        refine k_istore (L' := [.ref 43, ub, .ref q, .int (nu), .int (fr), .ref pl, .int (nI i), .int (nI j), .int (th), .int (0)]) f63_135 rfl rfl ?_
        refine k_aload f63_137 rfl ?_
        refine k_getr (q := 44) f63_138 hS.o43 rfl hR.r43_7 ?_
        refine k_iload f63_141 rfl ?_
        refine k_iload f63_143 rfl ?_
        refine k_if_eq f63_145 (fun _ => ?_) (fun h_ => absurd (by decide) h_)
        refine k_iconst (v := 0) f63_173 rfl ?_
        refine k_is (k := i) f63_174 hS.a44 rfl (by omega) (by decide) ?_
        obtain ⟨I1, eI1⟩ : ∃ I1, I1 = z_u I 44 i (0) := ⟨_, rfl⟩
        rw [← eI1]
        have f1 : ∀ p k, p ≠ 44 → I1 p k = I p k := fun p k hp => by rw [eI1]; exact z_u_p _ _ _ _ hp
        have hw1 := hw.keep h8 hq2 (I' := I1) fun p k h1 _ => f1 p k (by omega)
        have kr1 : Kr I0 I1 := kr0.trans fun p k hp => f1 p k (by omega)
        refine k_aload f63_175 rfl ?_
        refine k_getr (q := 45) f63_176 hS.o43 rfl hR.r43_8 ?_
        refine k_iload f63_179 rfl ?_
        refine k_iload f63_181 rfl ?_
        refine k_if_eq f63_183 (fun _ => ?_) (fun h_ => absurd (by decide) h_)
        refine k_iconst (v := 0) f63_211 rfl ?_
        refine k_is (k := i) f63_212 hS.a45 rfl (by omega) (by decide) ?_
        refine k_iinc (w := nI (i + 1)) (L' := [.ref 43, ub, .ref q, .int (nu), .int (fr), .ref pl, .int (nI (i + 1)), .int (nI j), .int (th), .int (0)]) f63_213 rfl (nI_1 i) rfl rfl ?_
        refine k_goto f63_216 ?_
        refine ih (i + 1) _ J _ _ _ _ (by omega) ⟨hw1.keep h8 hq2 fun p k h1 _ => z_u_p _ _ _ _ (by omega), fun p k hp => by rw [z_u_p _ _ _ _ (by omega), f1 p k (by omega)]; exact hfr p k hp, fun k hk => ?_⟩
        by_cases e : k = i
        · subst e
          rw [← ej, ← ea, ← eb, ← eth]
          unfold wyV
          rw [if_neg op, if_neg op, z_u_p _ _ _ _ (by omega), z_u_same, eI1, z_u_same]
          exact ⟨rfl, rfl⟩
        · rw [z_u_p _ _ _ _ (by omega), z_u_k _ _ _ e, eI1, z_u_k _ _ _ e, z_u_p _ _ _ _ (by omega)]
          exact hwl k (by omega)
      · by_cases g3 : th - sp ≤ s 7
        · have op : fr - sp ≤ s 7 ∧ ¬ th < fr ∧ th - sp ≤ s 7 := ⟨g1, g2, g3⟩
          refine k_iload f63_75 rfl ?_
          refine k_aload f63_77 rfl ?_
          refine k_gI (w := nI m) f63_79 hst.2.2.1.2.1 rfl (hst.2.2.2.1.2.2.2.1.trans hmw.1) ?_
          refine k_ic_ge f63_82 (fun h_ => absurd h_ (nI_ge hin (by omega))) (fun _ => ?_)
          refine k_aload f63_85 rfl ?_
          refine k_getr (q := pl + 7) f63_87 hst.2.2.1.2.1 rfl (hst.2.2.1.2.2.1 6 (by omega)) ?_
          refine k_iload f63_90 rfl ?_
          refine k_ia (k := i) (w := nI j) f63_92 (hst.2.2.1.2.2.2.2 3 (by omega)) rfl (by omega) (by decide) mk ?_
          refine k_istore (L' := [.ref 43, ub, .ref q, .int (nu), .int (fr), .ref pl, .int (nI i), .int (nI j), u8, u9]) f63_93 rfl rfl ?_
          refine k_aload f63_95 rfl ?_
          refine k_getr (q := pl + 4) f63_97 hst.2.2.1.2.1 rfl (hst.2.2.1.2.2.1 3 (by omega)) ?_
          refine k_iload f63_100 rfl ?_
          refine k_ia (k := j) (w := th) f63_102 (hst.2.2.1.2.2.2.2 0 (by omega)) rfl (by omega) (by decide) (mt.1.trans v0) ?_
          refine k_istore (L' := [.ref 43, ub, .ref q, .int (nu), .int (fr), .ref pl, .int (nI i), .int (nI j), .int (th), u9]) f63_103 rfl rfl ?_
          refine k_aload f63_105 rfl ?_
          refine k_iload f63_106 rfl ?_
          refine e_v (as := [.int (fr)]) (rest := []) f63_108 hS.o43 rfl rfl rfl (s_isGood (sp := sp) hR hS hst r3 hq hw.2.2.2.2.1) ?_
          refine k_beq f63_111 (fun h_ => absurd (g1) h_) (fun _ => ?_)
          refine k_iload f63_114 rfl ?_
          refine k_iload f63_116 rfl ?_
          refine k_ic_lt f63_118 (fun h_ => absurd h_ (g2)) (fun _ => ?_)
          refine k_aload f63_121 rfl ?_
          refine k_iload f63_122 rfl ?_
          refine e_v (as := [.int (th)]) (rest := []) f63_124 hS.o43 rfl rfl rfl (s_isGood (sp := sp) hR hS hst r3 hq hw.2.2.2.2.1) ?_
          refine k_beq f63_127 (fun h_ => absurd (g3) h_) (fun _ => ?_)
          refine k_iconst (v := 1) f63_130 rfl ?_
          refine k_goto f63_131 ?_
          refine k_istore (L' := [.ref 43, ub, .ref q, .int (nu), .int (fr), .ref pl, .int (nI i), .int (nI j), .int (th), .int (1)]) f63_135 rfl rfl ?_
          refine k_aload f63_137 rfl ?_
          refine k_getr (q := 44) f63_138 hS.o43 rfl hR.r43_7 ?_
          refine k_iload f63_141 rfl ?_
          refine k_iload f63_143 rfl ?_
          refine k_if_eq f63_145 (fun h_ => absurd h_ (by decide)) (fun _ => ?_)
          refine k_aload f63_148 rfl ?_
          refine k_aload f63_149 rfl ?_
          refine k_getr (q := pl + 5) f63_151 hst.2.2.1.2.1 rfl (hst.2.2.1.2.2.1 4 (by omega)) ?_
          refine k_iload f63_154 rfl ?_
          refine k_ia (k := j) (w := nI a) f63_156 (hst.2.2.1.2.2.2.2 1 (by omega)) rfl (by omega) (by decide) (mt.2.1.trans va) ?_
          refine k_aload f63_157 rfl ?_
          refine k_getr (q := pl + 6) f63_159 hst.2.2.1.2.1 rfl (hst.2.2.1.2.2.1 5 (by omega)) ?_
          refine k_iload f63_162 rfl ?_
          refine k_ia (k := j) (w := nI b) f63_164 (hst.2.2.1.2.2.2.2 2 (by omega)) rfl (by omega) (by decide) (mt.2.2.1.trans vb) ?_
          refine k_iload f63_165 rfl ?_
          refine k_callv (as := [.int (th), .int (nI b), .int (nI a)]) (rest := [.int (nI i), .ref 44]) f63_167 hS.o43 rfl rfl rfl rfl ((by have g := q_step (x := x) (d := d) (J := J) (a := a) (b := b) (th := th) hR hS hw.1 hn hn8 hw.2.1 r2 r3 hq hw.2.2.1 hw.2.2.2.2.1 hw.2.2.2.2.2.1 hh hw.2.2.2.2.2.2.1 la lb; rw [show baB I fo = baB I0 fo from funext fun w => baB_kr kr0 fo w] at g; exact g)) ?_
          rintro _ _ ⟨rfl, J1, rfl⟩
          refine k_goto f63_170 ?_
          refine k_is (k := i) f63_174 hS.a44 rfl (by omega) (by decide) ?_
          obtain ⟨I1, eI1⟩ : ∃ I1, I1 = z_u I 44 i (nI (stV (baB I0 fo) s n nu wo sp h a b th)) := ⟨_, rfl⟩
          rw [← eI1]
          have f1 : ∀ p k, p ≠ 44 → I1 p k = I p k := fun p k hp => by rw [eI1]; exact z_u_p _ _ _ _ hp
          have hw1 := hw.keep h8 hq2 (I' := I1) fun p k h1 _ => f1 p k (by omega)
          have kr1 : Kr I0 I1 := kr0.trans fun p k hp => f1 p k (by omega)
          refine k_aload f63_175 rfl ?_
          refine k_getr (q := 45) f63_176 hS.o43 rfl hR.r43_8 ?_
          refine k_iload f63_179 rfl ?_
          refine k_iload f63_181 rfl ?_
          refine k_if_eq f63_183 (fun h_ => absurd h_ (by decide)) (fun _ => ?_)
          refine k_aload f63_186 rfl ?_
          refine k_aload f63_187 rfl ?_
          refine k_getr (q := pl + 6) f63_189 hst.2.2.1.2.1 rfl (hst.2.2.1.2.2.1 5 (by omega)) ?_
          refine k_iload f63_192 rfl ?_
          refine k_ia (k := j) (w := nI b) f63_194 (hst.2.2.1.2.2.2.2 2 (by omega)) rfl (by omega) (by decide) ((f1 _ _ (by omega)).trans (mt.2.2.1.trans vb)) ?_
          refine k_aload f63_195 rfl ?_
          refine k_getr (q := pl + 5) f63_197 hst.2.2.1.2.1 rfl (hst.2.2.1.2.2.1 4 (by omega)) ?_
          refine k_iload f63_200 rfl ?_
          refine k_ia (k := j) (w := nI a) f63_202 (hst.2.2.1.2.2.2.2 1 (by omega)) rfl (by omega) (by decide) ((f1 _ _ (by omega)).trans (mt.2.1.trans va)) ?_
          refine k_iload f63_203 rfl ?_
          refine k_callv (as := [.int (th), .int (nI a), .int (nI b)]) (rest := [.int (nI i), .ref 45]) f63_205 hS.o43 rfl rfl rfl rfl ((by have g := q_step (x := x) (d := d) (J := J1) (a := b) (b := a) (th := th) hR hS hw1.1 hn hn8 hw1.2.1 r2 r3 hq hw1.2.2.1 hw1.2.2.2.2.1 hw1.2.2.2.2.2.1 hh hw1.2.2.2.2.2.2.1 lb la; rw [show baB I1 fo = baB I0 fo from funext fun w => baB_kr kr1 fo w] at g; exact g)) ?_
          rintro _ _ ⟨rfl, J2, rfl⟩
          refine k_goto f63_208 ?_
          refine k_is (k := i) f63_212 hS.a45 rfl (by omega) (by decide) ?_
          refine k_iinc (w := nI (i + 1)) (L' := [.ref 43, ub, .ref q, .int (nu), .int (fr), .ref pl, .int (nI (i + 1)), .int (nI j), .int (th), .int (1)]) f63_213 rfl (nI_1 i) rfl rfl ?_
          refine k_goto f63_216 ?_
          refine ih (i + 1) _ J2 _ _ _ _ (by omega) ⟨hw1.keep h8 hq2 fun p k h1 _ => z_u_p _ _ _ _ (by omega), fun p k hp => by rw [z_u_p _ _ _ _ (by omega), f1 p k (by omega)]; exact hfr p k hp, fun k hk => ?_⟩
          by_cases e : k = i
          · subst e
            rw [← ej, ← ea, ← eb, ← eth]
            unfold wyV
            rw [if_pos op, if_pos op, z_u_p _ _ _ _ (by omega), z_u_same, eI1, z_u_same]
            exact ⟨rfl, rfl⟩
          · rw [z_u_p _ _ _ _ (by omega), z_u_k _ _ _ e, eI1, z_u_k _ _ _ e, z_u_p _ _ _ _ (by omega)]
            exact hwl k (by omega)
        · have op : ¬ (fr - sp ≤ s 7 ∧ ¬ th < fr ∧ th - sp ≤ s 7) := fun k => g3 k.2.2
          refine k_iload f63_75 rfl ?_
          refine k_aload f63_77 rfl ?_
          refine k_gI (w := nI m) f63_79 hst.2.2.1.2.1 rfl (hst.2.2.2.1.2.2.2.1.trans hmw.1) ?_
          refine k_ic_ge f63_82 (fun h_ => absurd h_ (nI_ge hin (by omega))) (fun _ => ?_)
          refine k_aload f63_85 rfl ?_
          refine k_getr (q := pl + 7) f63_87 hst.2.2.1.2.1 rfl (hst.2.2.1.2.2.1 6 (by omega)) ?_
          refine k_iload f63_90 rfl ?_
          refine k_ia (k := i) (w := nI j) f63_92 (hst.2.2.1.2.2.2.2 3 (by omega)) rfl (by omega) (by decide) mk ?_
          refine k_istore (L' := [.ref 43, ub, .ref q, .int (nu), .int (fr), .ref pl, .int (nI i), .int (nI j), u8, u9]) f63_93 rfl rfl ?_
          refine k_aload f63_95 rfl ?_
          refine k_getr (q := pl + 4) f63_97 hst.2.2.1.2.1 rfl (hst.2.2.1.2.2.1 3 (by omega)) ?_
          refine k_iload f63_100 rfl ?_
          refine k_ia (k := j) (w := th) f63_102 (hst.2.2.1.2.2.2.2 0 (by omega)) rfl (by omega) (by decide) (mt.1.trans v0) ?_
          refine k_istore (L' := [.ref 43, ub, .ref q, .int (nu), .int (fr), .ref pl, .int (nI i), .int (nI j), .int (th), u9]) f63_103 rfl rfl ?_
          refine k_aload f63_105 rfl ?_
          refine k_iload f63_106 rfl ?_
          refine e_v (as := [.int (fr)]) (rest := []) f63_108 hS.o43 rfl rfl rfl (s_isGood (sp := sp) hR hS hst r3 hq hw.2.2.2.2.1) ?_
          refine k_beq f63_111 (fun h_ => absurd (g1) h_) (fun _ => ?_)
          refine k_iload f63_114 rfl ?_
          refine k_iload f63_116 rfl ?_
          refine k_ic_lt f63_118 (fun h_ => absurd h_ (g2)) (fun _ => ?_)
          refine k_aload f63_121 rfl ?_
          refine k_iload f63_122 rfl ?_
          refine e_v (as := [.int (th)]) (rest := []) f63_124 hS.o43 rfl rfl rfl (s_isGood (sp := sp) hR hS hst r3 hq hw.2.2.2.2.1) ?_
          refine k_beq f63_127 (fun _ => ?_) (fun h_ => (absurd h_ (g3)))
          refine k_iconst (v := 0) f63_134 rfl ?_
          refine k_istore (L' := [.ref 43, ub, .ref q, .int (nu), .int (fr), .ref pl, .int (nI i), .int (nI j), .int (th), .int (0)]) f63_135 rfl rfl ?_
          refine k_aload f63_137 rfl ?_
          refine k_getr (q := 44) f63_138 hS.o43 rfl hR.r43_7 ?_
          refine k_iload f63_141 rfl ?_
          refine k_iload f63_143 rfl ?_
          refine k_if_eq f63_145 (fun _ => ?_) (fun h_ => absurd (by decide) h_)
          refine k_iconst (v := 0) f63_173 rfl ?_
          refine k_is (k := i) f63_174 hS.a44 rfl (by omega) (by decide) ?_
          obtain ⟨I1, eI1⟩ : ∃ I1, I1 = z_u I 44 i (0) := ⟨_, rfl⟩
          rw [← eI1]
          have f1 : ∀ p k, p ≠ 44 → I1 p k = I p k := fun p k hp => by rw [eI1]; exact z_u_p _ _ _ _ hp
          have hw1 := hw.keep h8 hq2 (I' := I1) fun p k h1 _ => f1 p k (by omega)
          have kr1 : Kr I0 I1 := kr0.trans fun p k hp => f1 p k (by omega)
          refine k_aload f63_175 rfl ?_
          refine k_getr (q := 45) f63_176 hS.o43 rfl hR.r43_8 ?_
          refine k_iload f63_179 rfl ?_
          refine k_iload f63_181 rfl ?_
          refine k_if_eq f63_183 (fun _ => ?_) (fun h_ => absurd (by decide) h_)
          refine k_iconst (v := 0) f63_211 rfl ?_
          refine k_is (k := i) f63_212 hS.a45 rfl (by omega) (by decide) ?_
          refine k_iinc (w := nI (i + 1)) (L' := [.ref 43, ub, .ref q, .int (nu), .int (fr), .ref pl, .int (nI (i + 1)), .int (nI j), .int (th), .int (0)]) f63_213 rfl (nI_1 i) rfl rfl ?_
          refine k_goto f63_216 ?_
          refine ih (i + 1) _ J _ _ _ _ (by omega) ⟨hw1.keep h8 hq2 fun p k h1 _ => z_u_p _ _ _ _ (by omega), fun p k hp => by rw [z_u_p _ _ _ _ (by omega), f1 p k (by omega)]; exact hfr p k hp, fun k hk => ?_⟩
          by_cases e : k = i
          · subst e
            rw [← ej, ← ea, ← eb, ← eth]
            unfold wyV
            rw [if_neg op, if_neg op, z_u_p _ _ _ _ (by omega), z_u_same, eI1, z_u_same]
            exact ⟨rfl, rfl⟩
          · rw [z_u_p _ _ _ _ (by omega), z_u_k _ _ _ e, eI1, z_u_k _ _ _ e, z_u_p _ _ _ _ (by omega)]
            exact hwl k (by omega)
    · have op : ¬ (fr - sp ≤ s 7 ∧ ¬ th < fr ∧ th - sp ≤ s 7) := fun k => g1 k.1
      refine k_iload f63_75 rfl ?_
      refine k_aload f63_77 rfl ?_
      refine k_gI (w := nI m) f63_79 hst.2.2.1.2.1 rfl (hst.2.2.2.1.2.2.2.1.trans hmw.1) ?_
      refine k_ic_ge f63_82 (fun h_ => absurd h_ (nI_ge hin (by omega))) (fun _ => ?_)
      refine k_aload f63_85 rfl ?_
      refine k_getr (q := pl + 7) f63_87 hst.2.2.1.2.1 rfl (hst.2.2.1.2.2.1 6 (by omega)) ?_
      refine k_iload f63_90 rfl ?_
      refine k_ia (k := i) (w := nI j) f63_92 (hst.2.2.1.2.2.2.2 3 (by omega)) rfl (by omega) (by decide) mk ?_
      refine k_istore (L' := [.ref 43, ub, .ref q, .int (nu), .int (fr), .ref pl, .int (nI i), .int (nI j), u8, u9]) f63_93 rfl rfl ?_
      refine k_aload f63_95 rfl ?_
      refine k_getr (q := pl + 4) f63_97 hst.2.2.1.2.1 rfl (hst.2.2.1.2.2.1 3 (by omega)) ?_
      refine k_iload f63_100 rfl ?_
      refine k_ia (k := j) (w := th) f63_102 (hst.2.2.1.2.2.2.2 0 (by omega)) rfl (by omega) (by decide) (mt.1.trans v0) ?_
      refine k_istore (L' := [.ref 43, ub, .ref q, .int (nu), .int (fr), .ref pl, .int (nI i), .int (nI j), .int (th), u9]) f63_103 rfl rfl ?_
      refine k_aload f63_105 rfl ?_
      refine k_iload f63_106 rfl ?_
      refine e_v (as := [.int (fr)]) (rest := []) f63_108 hS.o43 rfl rfl rfl (s_isGood (sp := sp) hR hS hst r3 hq hw.2.2.2.2.1) ?_
      refine k_beq f63_111 (fun _ => ?_) (fun h_ => (absurd h_ (g1)))
      refine k_iconst (v := 0) f63_134 rfl ?_
      refine k_istore (L' := [.ref 43, ub, .ref q, .int (nu), .int (fr), .ref pl, .int (nI i), .int (nI j), .int (th), .int (0)]) f63_135 rfl rfl ?_
      refine k_aload f63_137 rfl ?_
      refine k_getr (q := 44) f63_138 hS.o43 rfl hR.r43_7 ?_
      refine k_iload f63_141 rfl ?_
      refine k_iload f63_143 rfl ?_
      refine k_if_eq f63_145 (fun _ => ?_) (fun h_ => absurd (by decide) h_)
      refine k_iconst (v := 0) f63_173 rfl ?_
      refine k_is (k := i) f63_174 hS.a44 rfl (by omega) (by decide) ?_
      obtain ⟨I1, eI1⟩ : ∃ I1, I1 = z_u I 44 i (0) := ⟨_, rfl⟩
      rw [← eI1]
      have f1 : ∀ p k, p ≠ 44 → I1 p k = I p k := fun p k hp => by rw [eI1]; exact z_u_p _ _ _ _ hp
      have hw1 := hw.keep h8 hq2 (I' := I1) fun p k h1 _ => f1 p k (by omega)
      have kr1 : Kr I0 I1 := kr0.trans fun p k hp => f1 p k (by omega)
      refine k_aload f63_175 rfl ?_
      refine k_getr (q := 45) f63_176 hS.o43 rfl hR.r43_8 ?_
      refine k_iload f63_179 rfl ?_
      refine k_iload f63_181 rfl ?_
      refine k_if_eq f63_183 (fun _ => ?_) (fun h_ => absurd (by decide) h_)
      refine k_iconst (v := 0) f63_211 rfl ?_
      refine k_is (k := i) f63_212 hS.a45 rfl (by omega) (by decide) ?_
      refine k_iinc (w := nI (i + 1)) (L' := [.ref 43, ub, .ref q, .int (nu), .int (fr), .ref pl, .int (nI (i + 1)), .int (nI j), .int (th), .int (0)]) f63_213 rfl (nI_1 i) rfl rfl ?_
      refine k_goto f63_216 ?_
      refine ih (i + 1) _ J _ _ _ _ (by omega) ⟨hw1.keep h8 hq2 fun p k h1 _ => z_u_p _ _ _ _ (by omega), fun p k hp => by rw [z_u_p _ _ _ _ (by omega), f1 p k (by omega)]; exact hfr p k hp, fun k hk => ?_⟩
      by_cases e : k = i
      · subst e
        rw [← ej, ← ea, ← eb, ← eth]
        unfold wyV
        rw [if_neg op, if_neg op, z_u_p _ _ _ _ (by omega), z_u_same, eI1, z_u_same]
        exact ⟨rfl, rfl⟩
      · rw [z_u_p _ _ _ _ (by omega), z_u_k _ _ _ e, eI1, z_u_k _ _ _ e, z_u_p _ _ _ _ (by omega)]
        exact hwl k (by omega)
