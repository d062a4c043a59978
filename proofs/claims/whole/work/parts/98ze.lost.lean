/-! THE FIRST DAY home, and LOST, in the class. -/
def hoB (ba : (Nat → Int64) → Bool) (s : Nat → Int32) (n : Nat) (nu wo sp fr fe : Int32) (p h : Nat) : Bool := decide (fr - sp ≤ s 7) && decide (¬ fe = 0) && !ba (gW s n nu wo (fr - sp) h True (nI p) (nI p) fr)
theorem hoB_iff {ba : (Nat → Int64) → Bool} {s : Nat → Int32} {n : Nat} {nu wo sp fr fe : Int32} {p h : Nat} : hoB ba s n nu wo sp fr fe p h = true ↔ hoN ba s n nu wo sp fr fe p h := by
  unfold hoB hoN
  simp [and_assoc]
/-- WAYS, laid -/
def LD (ba : (Nat → Int64) → Bool) (I : Nat → Nat → Int32) (R : Nat → Nat → Option Nat) (G : zG) (pl q : Nat) (s : Nat → Int32) (n m : Nat) (bo : Option Nat) (f nu wo sp fr fe : Int32) (p h : Nat) : Prop :=
  WB I R G pl q s bo f nu wo sp fr p h ∧ WL ba I s n m nu wo sp fr h m ∧ I 43 6 = bI (hoB ba s n nu wo sp fr fe p h = true) ∧ R 43 2 = bo ∧ R 43 3 = some q
def FDc (ba : (Nat → Int64) → Bool) (s : Nat → Int32) (n m : Nat) (nu wo sp fr : Int32) (h g p : Nat) : Int32 × Nat :=
  fdC (fun k => wyV ba s n nu wo sp fr h (mA s (mO s m k)) (mB s (mO s m k)) (s (56 + 3 * mO s m k))) (fun k => wyV ba s n nu wo sp fr h (mB s (mO s m k)) (mA s (mO s m k)) (s (56 + 3 * mO s m k))) (fun k => mA s (mO s m k)) (fun k => mB s (mO s m k)) (mO s m) (fun k => s (56 + 3 * mO s m k)) g m 0 (2 ^ p)
def FD (ba : (Nat → Int64) → Bool) (s : Nat → Int32) (n m : Nat) (nu wo sp fr fe : Int32) (p h g : Nat) : Int32 × Nat := if hoB ba s n nu wo sp fr fe p h = true then (fr, 2 ^ p) else FDc ba s n m nu wo sp fr h g p
theorem LD.keep {ba : (Nat → Int64) → Bool} {I I' : Nat → Nat → Int32} {R : Nat → Nat → Option Nat} {G : zG} {pl q : Nat} {s : Nat → Int32} {n m : Nat} {bo : Option Nat} {f nu wo sp fr fe : Int32} {p h : Nat} (w : LD ba I R G pl q s n m bo f nu wo sp fr fe p h) (h8 : cl (s 1) ≤ 8) (hq : q = 38 ∨ (19 ≤ q ∧ q ≤ 26)) (hi : ∀ p k, p ≠ 46 → ¬ (p = 43 ∧ k = 9) → I' p k = I p k) : LD ba I' R G pl q s n m bo f nu wo sp fr fe p h := by
  obtain ⟨a, b, c, d⟩ := w
  refine ⟨⟨a.1.keep h8 Gk.rfl (fun p k _ hp => hi p k (by have := a.1.2.2.1.1; omega) (by have := a.1.2.2.1.1; omega)) (fun _ _ _ _ => rfl), a.2.1.kr fun p k hp => hi p k (by omega) (by omega), ?_, ?_, ?_, ?_, ?_, ?_⟩, fun k hk => ?_, ?_, d⟩
  · rw [hi _ _ (by omega) (by omega)]; exact a.2.2.1
  · rw [hi _ _ (by omega) (by omega)]; exact a.2.2.2.1
  · rw [hi _ _ (by omega) (by omega)]; exact a.2.2.2.2.1
  · rw [hi _ _ (by omega) (by omega)]; exact a.2.2.2.2.2.1
  · rw [hi _ _ (by omega) (by omega)]; exact a.2.2.2.2.2.2.1
  · rw [hi _ _ (by omega) (by omega)]; exact a.2.2.2.2.2.2.2
  · rw [hi _ _ (by omega) (by omega), hi 45 _ (by omega) (by omega)]; exact b k hk
  · rw [hi _ _ (by omega) (by omega)]; exact c
theorem q_first {x : Nat × (Nat → Int32)} {d : Nat} {I : Nat → Nat → Int32} {J : Nat → Nat → Int64} {R : Nat → Nat → Option Nat} {G : zG} {pl q n m h p g : Nat} {s : Nat → Int32} {bo : Option Nat} {ba : (Nat → Int64) → Bool} {fo nu wo sp fr fe : Int32} (hR : Rs R) (hS : Sh G) (hn : s 1 = nI n) (hn8 : n ≤ 8) (hmw : MW s m) (hm24 : m ≤ 24) (h11 : cl (s 0) < 11) (hq : zo G q 1) (hq2 : q = 38 ∨ (19 ≤ q ∧ q ≤ 26)) (hp : p < 10) (hg : g < 2 ^ 31) (hl : LD ba I R G pl q s n m bo fo nu wo sp fr fe p h) : zOk x (d + 1) 68 0 [.ref 43, .int (nI g), zU, zU, zU, zU, zU] [] (I, J, R, G) (fun v mm => v = some (.int (FD ba s n m nu wo sp fr fe p h g).1) ∧ ∃ I', mm = (I', J, R, G) ∧ I' 43 9 = nI (FD ba s n m nu wo sp fr fe p h g).2 ∧ ∀ p k, ¬ (p = 43 ∧ k = 9) → I' p k = I p k) := by
  have hw := hl.1
  have hst := hw.1
  have hpl := hst.2.2.1.1
  have h8 : cl (s 1) ≤ 8 := by rw [hn, cl_nI (by omega)]; exact hn8
  have r3 := hl.2.2.2.2
  have e1 : (1 : Int32) <<< (nI p &&& 31) = nI (2 ^ p) := sh_1 p (by omega)
  have p2 : 2 ^ p < 1024 := Nat.lt_of_lt_of_le (Nat.pow_lt_pow_right (by omega) hp) (Nat.le_refl _)
  by_cases hb : hoB ba s n nu wo sp fr fe p h = true
  · refine k_aload f68_0 rfl ?_
    refine k_iconst (v := 1) f68_1 rfl ?_
    refine k_aload f68_2 rfl ?_
    refine k_getr (q := q) f68_3 hS.o43 rfl r3 ?_
    refine k_gI (w := nI p) f68_6 hq rfl hw.2.2.2.1 ?_
    refine k_ishl f68_9 ?_
    refine k_putI f68_10 hS.o43 rfl ?_
    rw [e1]
    refine k_aload f68_13 rfl ?_
    refine k_gI (w := 1) f68_14 hS.o43 rfl (Eq.trans (z_u_k _ _ _ (by decide)) (hl.2.2.1.trans (bI_v1 hb))) ?_
    refine k_if_eq f68_17 (fun h_ => absurd h_ (by decide)) (fun _ => ?_)
    refine k_aload f68_20 rfl ?_
    refine k_gI (w := fr) f68_21 hS.o43 rfl (Eq.trans (z_u_k _ _ _ (by decide)) hw.2.2.2.2.2.2.2) ?_
    exact k_iret f68_24 rfl ⟨by rw [show FD ba s n m nu wo sp fr fe p h g = (fr, 2 ^ p) from if_pos hb], _, rfl, by rw [show FD ba s n m nu wo sp fr fe p h g = (fr, 2 ^ p) from if_pos hb, z_u_same], fun p k hp => z_u_no _ _ hp⟩
  · refine k_aload f68_0 rfl ?_
    refine k_iconst (v := 1) f68_1 rfl ?_
    refine k_aload f68_2 rfl ?_
    refine k_getr (q := q) f68_3 hS.o43 rfl r3 ?_
    refine k_gI (w := nI p) f68_6 hq rfl hw.2.2.2.1 ?_
    refine k_ishl f68_9 ?_
    refine k_putI f68_10 hS.o43 rfl ?_
    rw [e1]
    refine k_aload f68_13 rfl ?_
    refine k_gI (w := 0) f68_14 hS.o43 rfl (Eq.trans (z_u_k _ _ _ (by decide)) (hl.2.2.1.trans (bI_v0 hb))) ?_
    refine k_if_eq f68_17 (fun _ => ?_) (fun h_ => absurd (by decide) h_)
    refine k_aload f68_25 rfl ?_
    refine k_getr (q := 17) f68_26 hS.o43 rfl hR.r43_1 ?_
    refine k_getr (q := pl) f68_29 hS.o17 rfl hst.2.1 ?_
    refine k_astore (L' := [.ref 43, .int (nI g), .ref pl, zU, zU, zU, zU]) f68_32 rfl rfl ?_
    refine k_iconst (v := 0) f68_33 rfl ?_
    refine k_istore (L' := [.ref 43, .int (nI g), .ref pl, .int (0), zU, zU, zU]) f68_34 rfl rfl ?_
    obtain ⟨I1, eI1⟩ : ∃ I1, I1 = z_u I 43 9 (nI (2 ^ p)) := ⟨_, rfl⟩
    rw [← eI1]
    have f1 : ∀ p k, ¬ (p = 43 ∧ k = 9) → I1 p k = I p k := fun p k hp => by rw [eI1, z_u_no _ _ hp]
    have c2 : cl (s 2) = m := by rw [hmw.1, cl_nI (by omega)]
    have hst1 : StR I1 R G 17 pl s := hst.keep h8 Gk.rfl (fun p k _ hp => f1 p k (by omega)) (fun _ _ _ _ => rfl)
    have hoj : ∀ k, k < m → mO s m k < m := fun k hk => ordK_lt hk
    refine zOk.imp (lp_fd (d := d) (I0 := I1) (g := g) (om := mO s m) (od := fun k => s (56 + 3 * mO s m k)) (oa := fun k => mA s (mO s m k)) (ob := fun k => mB s (mO s m k)) (w1 := fun k => wyV ba s n nu wo sp fr h (mA s (mO s m k)) (mB s (mO s m k)) (s (56 + 3 * mO s m k))) (w2 := fun k => wyV ba s n nu wo sp fr h (mB s (mO s m k)) (mA s (mO s m k)) (s (56 + 3 * mO s m k))) hR hS hst1 h8 hmw.1 hm24 hg (fun k hk => ⟨?_, hoj k hk⟩) (fun k hk => rfl) (fun k hk => ⟨(hmw.2.2 _ (hoj k hk)).1.1, ?_⟩) (fun k hk => ⟨(hmw.2.2 _ (hoj k hk)).2.1.1, ?_⟩) (fun k hk => ⟨(f1 _ _ (by omega)).trans (hl.2.1 k hk).1, wyV_le⟩) (fun k hk => ⟨(f1 _ _ (by omega)).trans (hl.2.1 k hk).2, wyV_le⟩) m 0 (2 ^ p) I1 _ _ _ (by omega) ⟨by rw [eI1, z_u_same], p2, fun _ _ _ => rfl⟩) ?_
    · have := (hst1.2.2.2.1.2.2.2.2 k (by omega)).2.2.2
      rw [c2] at this
      exact this
    · have := (hmw.2.2 _ (hoj k hk)).1.2
      show mA s (mO s m k) < 10
      unfold mA
      omega
    · have := (hmw.2.2 _ (hoj k hk)).2.1.2
      show mB s (mO s m k) < 10
      unfold mB
      omega
    · rintro _ _ ⟨rfl, I2, rfl, h9, hf⟩
      have e : FD ba s n m nu wo sp fr fe p h g = FDc ba s n m nu wo sp fr h g p := if_neg hb
      rw [e]
      exact ⟨rfl, I2, rfl, h9, fun p k hp => (hf p k hp).trans (f1 p k hp)⟩
theorem q_lost {x : Nat × (Nat → Int32)} {d : Nat} {I : Nat → Nat → Int32} {J : Nat → Nat → Int64} {R : Nat → Nat → Option Nat} {G : zG} {pl q n m h p g : Nat} {s : Nat → Int32} {bo : Option Nat} {ba : (Nat → Int64) → Bool} {fo nu wo sp fr fe : Int32} (hR : Rs R) (hS : Sh G) (hn : s 1 = nI n) (hn8 : n ≤ 8) (hmw : MW s m) (hm24 : m ≤ 24) (h11 : cl (s 0) < 11) (hq : zo G q 1) (hq2 : q = 38 ∨ (19 ≤ q ∧ q ≤ 26)) (hp : p < 10) (hg : g < 2 ^ 31) (hl : LD ba I R G pl q s n m bo fo nu wo sp fr fe p h) : zOk x (d + 2) 67 0 [.ref 43, .int (nI g)] [] (I, J, R, G) (fun v mm => v = some (.int (bI (fr - sp ≤ s 7 ∧ (FD ba s n m nu wo sp fr fe p h g).1 = -2))) ∧ ∃ I', mm = (I', J, R, G) ∧ (fr - sp ≤ s 7 → I' 43 9 = nI (FD ba s n m nu wo sp fr fe p h g).2) ∧ ∀ p k, ¬ (p = 43 ∧ k = 9) → I' p k = I p k) := by
  have hw := hl.1
  have hst := hw.1
  have hpl := hst.2.2.1.1
  have h8 : cl (s 1) ≤ 8 := by rw [hn, cl_nI (by omega)]; exact hn8
  have r3 := hl.2.2.2.2
  have e1 : (1 : Int32) <<< (nI p &&& 31) = nI (2 ^ p) := sh_1 p (by omega)
  have p2 : 2 ^ p < 1024 := Nat.lt_of_lt_of_le (Nat.pow_lt_pow_right (by omega) hp) (Nat.le_refl _)
  by_cases g1 : fr - sp ≤ s 7
  · refine k_aload f67_0 rfl ?_
    refine k_aload f67_1 rfl ?_
    refine k_gI (w := fr) f67_2 hS.o43 rfl hw.2.2.2.2.2.2.2 ?_
    refine e_v (as := [.int (fr)]) (rest := []) f67_5 hS.o43 rfl rfl rfl (s_isGood (sp := sp) hR hS hst r3 hq hw.2.2.2.2.1) ?_
    refine k_beq f67_8 (fun h_ => absurd (g1) h_) (fun _ => ?_)
    refine k_aload f67_11 rfl ?_
    refine k_iload f67_12 rfl ?_
    refine k_callv (as := [.int (nI g)]) (rest := []) f67_13 hS.o43 rfl rfl rfl rfl (q_first (g := g) hR hS hn hn8 hmw hm24 h11 hq hq2 hp hg hl) ?_
    rintro _ _ ⟨rfl, I1, rfl, h9, hf⟩
    refine k_iconst (v := (-2)) f67_16 rfl ?_
    refine k_ic_ne f67_18 (fun g0 => ?_) (fun g0 => ?_)
    · refine k_iconst (v := 0) f67_25 rfl ?_
      exact k_iret f67_26 (by decide) ⟨bI_f (fun k => g0 k.2), I1, rfl, fun _ => h9, hf⟩
    · refine k_iconst (v := 1) f67_21 rfl ?_
      refine k_goto f67_22 ?_
      exact k_iret f67_26 (by decide) ⟨bI_t ⟨g1, (Classical.not_not.mp g0)⟩, I1, rfl, fun _ => h9, hf⟩
  · refine k_aload f67_0 rfl ?_
    refine k_aload f67_1 rfl ?_
    refine k_gI (w := fr) f67_2 hS.o43 rfl hw.2.2.2.2.2.2.2 ?_
    refine e_v (as := [.int (fr)]) (rest := []) f67_5 hS.o43 rfl rfl rfl (s_isGood (sp := sp) hR hS hst r3 hq hw.2.2.2.2.1) ?_
    refine k_beq f67_8 (fun _ => ?_) (fun h_ => (absurd h_ (g1)))
    refine k_iconst (v := 0) f67_25 rfl ?_
    exact k_iret f67_26 (by decide) ⟨bI_f (fun k => g1 k.1), I, rfl, fun k => absurd k g1, fun _ _ _ => rfl⟩
