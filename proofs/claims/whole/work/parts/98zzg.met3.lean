/-! MET: the sets counted, on both sides. -/
def mtS (ps : Nat → Bool) (k : Nat) (q : Int32 × Int32 × Int32) : Int32 × Int32 × Int32 := if ps k = true then (q.1 + 1, q.2.1 &&& nI k, q.2.2 ||| nI k) else q
def mtD (ps : Nat → Bool) (k : Nat) (q : Int32 × Int32 × Int32) : Int32 × Int32 × Int32 := if ps k = true then (q.1 + 1, q.2.1 &&& nI k, q.2.2 &&& (nI k ^^^ (-1))) else q
theorem bit_no (A e k : Int32) : (A &&& (e ^^^ (-1))) &&& (k ^^^ (-1)) = A &&& ((e ||| k) ^^^ (-1)) := by
  apply Int32.toBitVec_inj.mp
  simp only [Int32.toBitVec_and, Int32.toBitVec_or, Int32.toBitVec_xor]
  have h : (-1 : Int32).toBitVec = BitVec.allOnes 32 := by decide
  rw [h]
  ext i hi
  simp only [BitVec.getElem_and, BitVec.getElem_or, BitVec.getElem_xor, BitVec.getElem_allOnes]
  cases A.toBitVec[i] <;> cases e.toBitVec[i] <;> cases k.toBitVec[i] <;> rfl
theorem mt_eq {ps : Nat → Bool} {A : Int32} : ∀ (f i : Nat) (q q' : Int32 × Int32 × Int32), q'.1 = q.1 → q'.2.1 = q.2.1 → q'.2.2 = A &&& (q.2.2 ^^^ (-1)) → (foL (mtD ps) i f q').1 = (foL (mtS ps) i f q).1 ∧ (foL (mtD ps) i f q').2.1 = (foL (mtS ps) i f q).2.1 ∧ (foL (mtD ps) i f q').2.2 = A &&& ((foL (mtS ps) i f q).2.2 ^^^ (-1)) := by
  intro f
  induction f with
  | zero => intro i q q' h1 h2 h3; exact ⟨h1, h2, h3⟩
  | succ f ih =>
    intro i q q' h1 h2 h3
    rw [foL_s, foL_s]
    by_cases p : ps i = true
    · rw [show mtD ps i q' = (q'.1 + 1, q'.2.1 &&& nI i, q'.2.2 &&& (nI i ^^^ (-1))) from if_pos p, show mtS ps i q = (q.1 + 1, q.2.1 &&& nI i, q.2.2 ||| nI i) from if_pos p]
      exact ih (i + 1) _ _ (congrArg (fun t => t + 1) h1) (congrArg (fun t => t &&& nI i) h2) (by show q'.2.2 &&& (nI i ^^^ (-1)) = A &&& ((q.2.2 ||| nI i) ^^^ (-1)); rw [h3, bit_no])
    · rw [show mtD ps i q' = q' from if_neg p, show mtS ps i q = q from if_neg p]
      exact ih (i + 1) _ _ h1 h2 h3
theorem lp_all {x : Nat × (Nat → Int32)} {d : Nat} {J : Nat → Nat → Int64} {R : Nat → Nat → Option Nat} {G : zG} {I0 : Nat → Nat → Int32} {md : Nat} {wh : Int32} {u4 u5 u6 : Value} {Q : Option Value → zM → Prop} (hR : Rs R) (hS : Sh G) (hm : md < 9) (hk : ∀ I' u3, (∀ k, k < 2 ^ md → I' 48 k = 1) → (∀ p k, p ≠ 48 → I' p k = I0 p k) → zOk x d 92 58 [.ref 0, .int wh, .int (nI (2 ^ md - 1)), u3, u4, u5, u6] [] (I', J, R, G) Q) : ∀ (f i : Nat) (I : Nat → Nat → Int32), i + f = 2 ^ md → ((∀ k, k < i → I 48 k = 1) ∧ ∀ p k, p ≠ 48 → I p k = I0 p k) → zOk x d 92 40 [.ref 0, .int (wh), .int (nI (2 ^ md - 1)), .int (nI i), u4, u5, u6] [] (I, J, R, G) Q := by
  intro f
  induction f with
  | zero =>
    intro i I hi hz
    obtain ⟨h1, hfr⟩ := hz
    have hT : 2 ^ md ≤ 256 := Nat.pow_le_pow_right (by omega) (show md ≤ 8 by omega)
    have hT1 := Nat.one_le_two_pow (n := md)
    refine k_iload f92_40 rfl ?_
    refine k_iload f92_41 rfl ?_
    refine k_ic_gt f92_42 (fun _ => ?_) (fun h_ => absurd (nI_lt (by omega) (by omega)) h_)
    exact hk I _ (fun k hk2 => h1 k (by omega)) hfr
  | succ f ih =>
    intro i I hi hz
    obtain ⟨h1, hfr⟩ := hz
    have hT : 2 ^ md ≤ 256 := Nat.pow_le_pow_right (by omega) (show md ≤ 8 by omega)
    have hT1 := Nat.one_le_two_pow (n := md)
    have hin : i < 2 ^ md := by omega
    refine k_iload f92_40 rfl ?_
    refine k_iload f92_41 rfl ?_
    refine k_ic_gt f92_42 (fun h_ => absurd h_ (nI_nlt (by omega) (by omega))) (fun _ => ?_)
    refine k_aload f92_45 rfl ?_
    refine k_getr (q := 48) f92_46 hS.o0 rfl hR.r0_12 ?_
    refine k_iload f92_49 rfl ?_
    refine k_iconst (v := 1) f92_50 rfl ?_
    refine k_zs (k := i) f92_51 hS.a48 rfl (by omega) (by decide) (by decide) ?_
    refine k_iinc (w := nI (i + 1)) (L' := [.ref 0, .int (wh), .int (nI (2 ^ md - 1)), .int (nI (i + 1)), u4, u5, u6]) f92_52 rfl (nI_1 i) rfl rfl ?_
    refine k_goto f92_55 ?_
    refine ih (i + 1) _ (by omega) ⟨fun k hk2 => ?_, fun p k hp => (z_u_p _ _ _ _ hp).trans (hfr p k hp)⟩
    by_cases e : k = i
    · subst e; exact z_u_same _ _ _ _
    · rw [z_u_k _ _ _ e]; exact h1 k (by omega)
theorem lp_cnt {x : Nat × (Nat → Int32)} {d : Nat} {I : Nat → Nat → Int32} {J : Nat → Nat → Int64} {R : Nat → Nat → Option Nat} {G : zG} {md : Nat} {wh : Int32} {ps : Nat → Bool} {qf : Int32 × Int32 × Int32} {Q : Option Value → zM → Prop} (hR : Rs R) (hS : Sh G) (hm : md < 9) (hps : ∀ k, k < 2 ^ md → I 48 k = bI (ps k = true)) (hk : ∀ u6, zOk x d 92 171 [.ref 0, .int wh, .int (nI (2 ^ md - 1)), .int qf.1, .int qf.2.1, .int qf.2.2, u6] [] (I, J, R, G) Q) : ∀ (f i : Nat) (q : Int32 × Int32 × Int32), i + f = 2 ^ md → foL (mtS ps) i f q = qf → zOk x d 92 132 [.ref 0, .int (wh), .int (nI (2 ^ md - 1)), .int (q.1), .int (q.2.1), .int (q.2.2), .int (nI i)] [] (I, J, R, G) Q := by
  intro f
  induction f with
  | zero =>
    intro i q hi hz
    have hT : 2 ^ md ≤ 256 := Nat.pow_le_pow_right (by omega) (show md ≤ 8 by omega)
    have hT1 := Nat.one_le_two_pow (n := md)
    have hf := hz
    refine k_iload f92_132 rfl ?_
    refine k_iload f92_134 rfl ?_
    refine k_ic_gt f92_135 (fun _ => ?_) (fun h_ => absurd (nI_lt (by omega) (by omega)) h_)
    have hf : q = qf := hf
    rw [hf]
    exact hk _
  | succ f ih =>
    intro i q hi hz
    have hT : 2 ^ md ≤ 256 := Nat.pow_le_pow_right (by omega) (show md ≤ 8 by omega)
    have hT1 := Nat.one_le_two_pow (n := md)
    have hf := hz
    have hin : i < 2 ^ md := by omega
    by_cases hp : ps i = true
    · refine k_iload f92_132 rfl ?_
      refine k_iload f92_134 rfl ?_
      refine k_ic_gt f92_135 (fun h_ => absurd h_ (nI_nlt (by omega) (by omega))) (fun _ => ?_)
      refine k_aload f92_138 rfl ?_
      refine k_getr (q := 48) f92_139 hS.o0 rfl hR.r0_12 ?_
      refine k_iload f92_142 rfl ?_
      refine k_za (k := i) (w := 1) f92_144 hS.a48 rfl (by omega) (by decide) ((hps i hin).trans (bI_v1 hp)) ?_
      refine k_if_eq f92_145 (fun h_ => absurd h_ (by decide)) (fun _ => ?_)
      refine k_iinc (w := (q.1) + 1) (L' := [.ref 0, .int (wh), .int (nI (2 ^ md - 1)), .int ((q.1) + 1), .int (q.2.1), .int (q.2.2), .int (nI i)]) f92_148 rfl rfl rfl rfl ?_
      refine k_iload f92_151 rfl ?_
      refine k_iload f92_153 rfl ?_
      refine k_iand f92_155 ?_
      refine k_istore (L' := [.ref 0, .int (wh), .int (nI (2 ^ md - 1)), .int ((q.1) + 1), .int ((q.2.1) &&& (nI i)), .int (q.2.2), .int (nI i)]) f92_156 rfl rfl ?_
      refine k_iload f92_158 rfl ?_
      refine k_iload f92_160 rfl ?_
      refine k_ior f92_162 ?_
      refine k_istore (L' := [.ref 0, .int (wh), .int (nI (2 ^ md - 1)), .int ((q.1) + 1), .int ((q.2.1) &&& (nI i)), .int ((q.2.2) ||| (nI i)), .int (nI i)]) f92_163 rfl rfl ?_
      refine k_iinc (w := nI (i + 1)) (L' := [.ref 0, .int (wh), .int (nI (2 ^ md - 1)), .int ((q.1) + 1), .int ((q.2.1) &&& (nI i)), .int ((q.2.2) ||| (nI i)), .int (nI (i + 1))]) f92_165 rfl (nI_1 i) rfl rfl ?_
      refine k_goto f92_168 ?_
      rw [foL_s, show mtS ps i q = (q.1 + 1, q.2.1 &&& nI i, q.2.2 ||| nI i) from if_pos hp] at hf
      exact ih (i + 1) (q.1 + 1, q.2.1 &&& nI i, q.2.2 ||| nI i) (by omega) hf
    · refine k_iload f92_132 rfl ?_
      refine k_iload f92_134 rfl ?_
      refine k_ic_gt f92_135 (fun h_ => absurd h_ (nI_nlt (by omega) (by omega))) (fun _ => ?_)
      refine k_aload f92_138 rfl ?_
      refine k_getr (q := 48) f92_139 hS.o0 rfl hR.r0_12 ?_
      refine k_iload f92_142 rfl ?_
      refine k_za (k := i) (w := 0) f92_144 hS.a48 rfl (by omega) (by decide) ((hps i hin).trans (bI_v0 hp)) ?_
      refine k_if_eq f92_145 (fun _ => ?_) (fun h_ => absurd (by decide) h_)
      refine k_iinc (w := nI (i + 1)) (L' := [.ref 0, .int (wh), .int (nI (2 ^ md - 1)), .int (q.1), .int (q.2.1), .int (q.2.2), .int (nI (i + 1))]) f92_165 rfl (nI_1 i) rfl rfl ?_
      refine k_goto f92_168 ?_
      rw [foL_s, show mtS ps i q = q from if_neg hp] at hf
      exact ih (i + 1) q (by omega) hf
theorem ps_kr {b b' : Nat → Nat → Int32} {s : Nat → Int32} {md k : Nat} (h : Kr b b') : ∀ {c : Nat}, psA b' s md c k = psA b s md c k := by
  intro c
  induction c with
  | zero => rfl
  | succ c ih => rw [psA, psA, ih, tlB_kr h]
theorem lp_cntD {x : Nat × (Nat → Int32)} {d : Nat} {G : zG} {I0 : Nat → Nat → Int32} {R : Nat → Nat → Option Nat} {s : Nat → Int32} {md : Nat} {wh dn : Int32} {qf : Int32 × Int32 × Int32} {Q : Option Value → zM → Prop} (hR : Rs R) (hS : Sh G) (hs0 : I0 62 = s) (hO : SOk s (cl (I0 0 4))) (hA0 : RuA I0 R G) (hm : md < 9) (hk : ∀ I' J' u7, RF2 I0 I' → zOk x (d + 8) 199 111 [.ref 51, .int wh, .int dn, .int (nI (2 ^ md - 1)), .int qf.1, .int qf.2.1, .int qf.2.2, u7] [] (I', J', R, G) Q) : ∀ (f i : Nat) (q : Int32 × Int32 × Int32) (I : Nat → Nat → Int32) (J : Nat → Nat → Int64), i + f = 2 ^ md → (RF2 I0 I ∧ foL (mtD (psA I0 s md (cl (s 1)))) i f q = qf) → zOk x (d + 8) 199 64 [.ref 51, .int (wh), .int (dn), .int (nI (2 ^ md - 1)), .int (q.1), .int (q.2.1), .int (q.2.2), .int (nI i)] [] (I, J, R, G) Q := by
  intro f
  induction f with
  | zero =>
    intro i q I J hi hz
    obtain ⟨hz, hf⟩ := hz
    have hT : 2 ^ md ≤ 256 := Nat.pow_le_pow_right (by omega) (show md ≤ 8 by omega)
    have hT1 := Nat.one_le_two_pow (n := md)
    have hs : I 62 = s := (funext fun k => hz 62 k (by omega) (by omega)).trans hs0
    have kr := hz.kr
    have hA := hA0.kr kr
    have hO1 : SOk s (cl (I 0 4)) := by rw [kr 0 4 (by omega)]; exact hO
    refine k_iload f199_64 rfl ?_
    refine k_iload f199_66 rfl ?_
    refine k_ic_gt f199_67 (fun _ => ?_) (fun h_ => absurd (nI_lt (by omega) (by omega)) h_)
    have hf : q = qf := hf
    rw [hf]
    exact hk I J _ hz
  | succ f ih =>
    intro i q I J hi hz
    obtain ⟨hz, hf⟩ := hz
    have hT : 2 ^ md ≤ 256 := Nat.pow_le_pow_right (by omega) (show md ≤ 8 by omega)
    have hT1 := Nat.one_le_two_pow (n := md)
    have hs : I 62 = s := (funext fun k => hz 62 k (by omega) (by omega)).trans hs0
    have kr := hz.kr
    have hA := hA0.kr kr
    have hO1 : SOk s (cl (I 0 4)) := by rw [kr 0 4 (by omega)]; exact hO
    have hin : i < 2 ^ md := by omega
    by_cases hp : psA I0 s md (cl (s 1)) i = true
    · refine k_iload f199_64 rfl ?_
      refine k_iload f199_66 rfl ?_
      refine k_ic_gt f199_67 (fun h_ => absurd h_ (nI_nlt (by omega) (by omega))) (fun _ => ?_)
      refine k_aload f199_70 rfl ?_
      refine k_iload f199_71 rfl ?_
      refine k_iload f199_72 rfl ?_
      refine k_iconst (v := (-1)) f199_74 rfl ?_
      refine k_ixor f199_75 ?_
      refine k_iand f199_76 ?_
      rw [gn_eq hm hin]
      refine k_callv (as := [.int (nI ((2 ^ md - 1) ^^^ i))]) (rest := []) f199_77 hS.o51 rfl rfl rfl rfl (q_told (k := i) (s := s) hR hS hs hO1 hA hm hin) ?_
      rintro _ _ ⟨rfl, I1, J1, rfl, hf1⟩
      rw [show ptB I s md i (cl (s 1)) 0 = psA I0 s md (cl (s 1)) i from by have h := ps_pt (b := I) (s := s) (md := md) (k := i) (cl (s 1)) 0; rw [Nat.zero_add] at h; rw [← ps_kr kr, ← h]; simp [psA]]
      have hz2 : RF2 I0 I1 := hz.trans hf1
      refine k_bne f199_80 (fun _ => ?_) (fun h_ => absurd (hp) h_)
      refine k_iload f199_86 rfl ?_
      refine k_iload f199_88 rfl ?_
      refine k_iand f199_90 ?_
      refine k_istore (L' := [.ref 51, .int (wh), .int (dn), .int (nI (2 ^ md - 1)), .int (q.1), .int ((q.2.1) &&& (nI i)), .int (q.2.2), .int (nI i)]) f199_91 rfl rfl ?_
      refine k_iload f199_93 rfl ?_
      refine k_iload f199_95 rfl ?_
      refine k_iconst (v := (-1)) f199_97 rfl ?_
      refine k_ixor f199_98 ?_
      refine k_iand f199_99 ?_
      refine k_istore (L' := [.ref 51, .int (wh), .int (dn), .int (nI (2 ^ md - 1)), .int (q.1), .int ((q.2.1) &&& (nI i)), .int ((q.2.2) &&& ((nI i) ^^^ ((-1)))), .int (nI i)]) f199_100 rfl rfl ?_
      refine k_iinc (w := (q.1) + 1) (L' := [.ref 51, .int (wh), .int (dn), .int (nI (2 ^ md - 1)), .int ((q.1) + 1), .int ((q.2.1) &&& (nI i)), .int ((q.2.2) &&& ((nI i) ^^^ ((-1)))), .int (nI i)]) f199_102 rfl rfl rfl rfl ?_
      refine k_iinc (w := nI (i + 1)) (L' := [.ref 51, .int (wh), .int (dn), .int (nI (2 ^ md - 1)), .int ((q.1) + 1), .int ((q.2.1) &&& (nI i)), .int ((q.2.2) &&& ((nI i) ^^^ ((-1)))), .int (nI (i + 1))]) f199_105 rfl (nI_1 i) rfl rfl ?_
      refine k_goto f199_108 ?_
      rw [foL_s, show mtD (psA I0 s md (cl (s 1))) i q = (q.1 + 1, q.2.1 &&& nI i, q.2.2 &&& (nI i ^^^ (-1))) from if_pos hp] at hf
      exact ih (i + 1) (q.1 + 1, q.2.1 &&& nI i, q.2.2 &&& (nI i ^^^ (-1))) I1 J1 (by omega) ⟨hz2, hf⟩
    · refine k_iload f199_64 rfl ?_
      refine k_iload f199_66 rfl ?_
      refine k_ic_gt f199_67 (fun h_ => absurd h_ (nI_nlt (by omega) (by omega))) (fun _ => ?_)
      refine k_aload f199_70 rfl ?_
      refine k_iload f199_71 rfl ?_
      refine k_iload f199_72 rfl ?_
      refine k_iconst (v := (-1)) f199_74 rfl ?_
      refine k_ixor f199_75 ?_
      refine k_iand f199_76 ?_
      rw [gn_eq hm hin]
      refine k_callv (as := [.int (nI ((2 ^ md - 1) ^^^ i))]) (rest := []) f199_77 hS.o51 rfl rfl rfl rfl (q_told (k := i) (s := s) hR hS hs hO1 hA hm hin) ?_
      rintro _ _ ⟨rfl, I1, J1, rfl, hf1⟩
      rw [show ptB I s md i (cl (s 1)) 0 = psA I0 s md (cl (s 1)) i from by have h := ps_pt (b := I) (s := s) (md := md) (k := i) (cl (s 1)) 0; rw [Nat.zero_add] at h; rw [← ps_kr kr, ← h]; simp [psA]]
      have hz2 : RF2 I0 I1 := hz.trans hf1
      refine k_bne f199_80 (fun h_ => absurd h_ (hp)) (fun _ => ?_)
      refine k_goto f199_83 ?_
      refine k_iinc (w := nI (i + 1)) (L' := [.ref 51, .int (wh), .int (dn), .int (nI (2 ^ md - 1)), .int (q.1), .int (q.2.1), .int (q.2.2), .int (nI (i + 1))]) f199_105 rfl (nI_1 i) rfl rfl ?_
      refine k_goto f199_108 ?_
      rw [foL_s, show mtD (psA I0 s md (cl (s 1))) i q = q from if_neg hp] at hf
      exact ih (i + 1) q I1 J1 (by omega) ⟨hz2, hf⟩
