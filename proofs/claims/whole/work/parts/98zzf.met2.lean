/-! MET: what is possible, in the class. -/
def psA (b : Nat → Nat → Int32) (s : Nat → Int32) (md : Nat) : Nat → Nat → Bool
  | 0, _ => true
  | c + 1, k => psA b s md c k && tlB b s md k c
theorem ps_pt {b : Nat → Nat → Int32} {s : Nat → Int32} {md k : Nat} : ∀ f i, (psA b s md i k && ptB b s md k f i) = psA b s md (i + f) k := by
  intro f
  induction f with
  | zero => intro i; simp [ptB]
  | succ f ih =>
    intro i
    rw [ptB, ← Bool.and_assoc, show (psA b s md i k && tlB b s md k i) = psA b s md (i + 1) k from rfl, ih, show i + 1 + f = i + (f + 1) by omega]
theorem tlB_kr {b b' : Nat → Nat → Int32} {s : Nat → Int32} {md k c : Nat} (h : Kr b b') : tlB b' s md k c = tlB b s md k c := by
  unfold tlB sk
  rw [FDk_kr h]
theorem sk_kr {b b' : Nat → Nat → Int32} {s : Nat → Int32} {md k c : Nat} {t : Bool} (h : Kr b b') : sk b' s md c t k = sk b s md c t k := by
  unfold sk
  rw [FDk_kr h]
theorem q_strike1 {x : Nat × (Nat → Int32)} {d : Nat} {I : Nat → Nat → Int32} {J : Nat → Nat → Int64} {R : Nat → Nat → Option Nat} {G : zG} {b : Nat → Nat → Int32} {pl c rn md : Nat} {s : Nat → Int32} {bo : Option Nat} {ps : Nat → Bool} (hR : Rs R) (hS : Sh G) (hO : SOk s rn) (hc : c < cl (s 1)) (hm : md < 9) (hl : LDc b I R G pl s bo c) (hps : ∀ k, k < 2 ^ md → I 48 k = bI (ps k = true)) : zOk x (d + 2) 108 0 [.ref 0, .int (nI (2 ^ md - 1)), .int (1), zU] [] (I, J, R, G) (fun v mm => v = none ∧ ∃ I', mm = (I', J, R, G) ∧ LDc b I' R G pl s bo c ∧ (∀ k, k < 2 ^ md → I' 48 k = bI ((ps k && sk b s md c true k) = true)) ∧ (∀ p k, ¬ (p = 43 ∧ k = 9) → p ≠ 48 → I' p k = I p k)) := by
  refine k_iconst (v := 0) f108_0 rfl ?_
  refine k_istore (L' := [.ref 0, .int (nI (2 ^ md - 1)), .int (1), .int (0)]) f108_1 rfl rfl ?_
  exact lp_strike1 hR hS hO hc hm (2 ^ md) 0 I (by omega) ⟨hl, fun k hk => by rw [if_neg (Nat.not_lt_zero k)]; exact hps k hk, fun _ _ _ _ => rfl⟩
theorem q_strike0 {x : Nat × (Nat → Int32)} {d : Nat} {I : Nat → Nat → Int32} {J : Nat → Nat → Int64} {R : Nat → Nat → Option Nat} {G : zG} {b : Nat → Nat → Int32} {pl c rn md : Nat} {s : Nat → Int32} {bo : Option Nat} {ps : Nat → Bool} (hR : Rs R) (hS : Sh G) (hO : SOk s rn) (hc : c < cl (s 1)) (hm : md < 9) (hl : LDc b I R G pl s bo c) (hps : ∀ k, k < 2 ^ md → I 48 k = bI (ps k = true)) : zOk x (d + 2) 108 0 [.ref 0, .int (nI (2 ^ md - 1)), .int (0), zU] [] (I, J, R, G) (fun v mm => v = none ∧ ∃ I', mm = (I', J, R, G) ∧ LDc b I' R G pl s bo c ∧ (∀ k, k < 2 ^ md → I' 48 k = bI ((ps k && sk b s md c false k) = true)) ∧ (∀ p k, ¬ (p = 43 ∧ k = 9) → p ≠ 48 → I' p k = I p k)) := by
  refine k_iconst (v := 0) f108_0 rfl ?_
  refine k_istore (L' := [.ref 0, .int (nI (2 ^ md - 1)), .int (0), .int (0)]) f108_1 rfl rfl ?_
  exact lp_strike0 hR hS hO hc hm (2 ^ md) 0 I (by omega) ⟨hl, fun k hk => by rw [if_neg (Nat.not_lt_zero k)]; exact hps k hk, fun _ _ _ _ => rfl⟩
theorem lp_metC {x : Nat × (Nat → Int32)} {d : Nat} {G : zG} {I0 : Nat → Nat → Int32} {R0 : Nat → Nat → Option Nat} {s : Nat → Int32} {pl md : Nat} {wh : Int32} {Q : Option Value → zM → Prop} (hR0 : Rs R0) (hS : Sh G) (hst0 : StR I0 R0 G 17 pl s) (hO : SOk s (cl (I0 0 4))) (hA0 : RuA I0 R0 G) (hm : md < 9) (hk : ∀ I' J' R' u3 u4 u5 u6, CFh I0 R0 I' R' → (∀ k, k < 2 ^ md → I' 48 k = bI (psA I0 s md (cl (s 1)) k = true)) → zOk x (d + 7) 92 121 [.ref 0, .int wh, .int (nI (2 ^ md - 1)), u3, u4, u5, u6] [] (I', J', R', G) Q) : ∀ (f i : Nat) (I : Nat → Nat → Int32) (J : Nat → Nat → Int64) (R : Nat → Nat → Option Nat) (u4 u5 u6 : Value), i + f = cl (s 1) → (CFh I0 R0 I R ∧ ∀ k, k < 2 ^ md → I 48 k = bI (psA I0 s md i k = true)) → zOk x (d + 7) 92 60 [.ref 0, .int (wh), .int (nI (2 ^ md - 1)), .int (nI i), u4, u5, u6] [] (I, J, R, G) Q := by
  intro f
  induction f with
  | zero =>
    intro i I J R u4 u5 u6 hi hz
    obtain ⟨hz, hps⟩ := hz
    have hn9 := hO.2.1.2
    have hR := hz.rs hS hR0
    have hst := hz.st hst0 (by omega)
    have hA := hz.ra hA0
    have hO1 : SOk s (cl (I 0 4)) := by rw [hz.1 0 4 (by omega)]; exact hO
    have kr := hz.kr
    have en : I pl 2 = nI (cl (s 1)) := hst.2.2.2.1.2.2.1.trans hO.2.1.1
    refine k_iload f92_60 rfl ?_
    refine k_aload f92_61 rfl ?_
    refine k_getr (q := 17) f92_62 hS.o0 rfl hR.r0_5 ?_
    refine k_getr (q := pl) f92_65 hS.o17 rfl hst.2.1 ?_
    refine k_gI (w := nI (cl (s 1))) f92_68 hst.2.2.1.2.1 rfl en ?_
    refine k_ic_ge f92_71 (fun _ => ?_) (fun h_ => absurd (nI_le (by omega) (by omega)) h_)
    have e : i = cl (s 1) := by omega
    subst e
    exact hk I J R _ _ _ _ hz hps
  | succ f ih =>
    intro i I J R u4 u5 u6 hi hz
    obtain ⟨hz, hps⟩ := hz
    have hn9 := hO.2.1.2
    have hR := hz.rs hS hR0
    have hst := hz.st hst0 (by omega)
    have hA := hz.ra hA0
    have hO1 : SOk s (cl (I 0 4)) := by rw [hz.1 0 4 (by omega)]; exact hO
    have kr := hz.kr
    have en : I pl 2 = nI (cl (s 1)) := hst.2.2.2.1.2.2.1.trans hO.2.1.1
    have hin : i < cl (s 1) := by omega
    have hi8 : i < 8 := by omega
    have cn := hst.2.2.2.2.2.2.2.2 i hin
    have hto := (hO.2.2.2.2.2.2.2.1 i hin).2.2.2.2.2.1
    by_cases he : s (131 + i) = -1
    · refine k_iload f92_60 rfl ?_
      refine k_aload f92_61 rfl ?_
      refine k_getr (q := 17) f92_62 hS.o0 rfl hR.r0_5 ?_
      refine k_getr (q := pl) f92_65 hS.o17 rfl hst.2.1 ?_
      refine k_gI (w := nI (cl (s 1))) f92_68 hst.2.2.1.2.1 rfl en ?_
      refine k_ic_ge f92_71 (fun h_ => absurd h_ (nI_ge hin (by omega))) (fun _ => ?_)
      refine k_aload f92_74 rfl ?_
      refine k_getr (q := 17) f92_75 hS.o0 rfl hR.r0_5 ?_
      refine k_getr (q := 18) f92_78 hS.o17 rfl hR.r17_5 ?_
      refine k_iload f92_81 rfl ?_
      refine k_aar (k := i) (q := 17 + 2 + i) f92_82 hS.a18 rfl rfl (by omega) (by decide) (hst.1.2.2.2 i hi8).1 ?_
      refine k_gI (w := s (131 + i)) f92_83 (hst.1.2.2.2 i hi8).2 rfl cn.2.2.2.2.2.2 ?_
      refine k_istore (L' := [.ref 0, .int (wh), .int (nI (2 ^ md - 1)), .int (nI i), .int (s (131 + i)), u5, u6]) f92_86 rfl rfl ?_
      refine k_iload f92_88 rfl ?_
      refine k_iconst (v := (-1)) f92_90 rfl ?_
      refine k_ic_eq f92_91 (fun _ => ?_) (fun h_ => absurd (he) h_)
      refine k_iinc (w := nI (i + 1)) (L' := [.ref 0, .int (wh), .int (nI (2 ^ md - 1)), .int (nI (i + 1)), .int (s (131 + i)), u5, u6]) f92_115 rfl (nI_1 i) rfl rfl ?_
      refine k_goto f92_118 ?_
      exact ih (i + 1) I J R _ _ _ (by omega) ⟨hz, fun k hk => by rw [show psA I0 s md (i + 1) k = psA I0 s md i k from by simp [psA, tlB, he]]; exact hps k hk⟩
    · by_cases h1 : s (131 + i) = 1
      · refine k_iload f92_60 rfl ?_
        refine k_aload f92_61 rfl ?_
        refine k_getr (q := 17) f92_62 hS.o0 rfl hR.r0_5 ?_
        refine k_getr (q := pl) f92_65 hS.o17 rfl hst.2.1 ?_
        refine k_gI (w := nI (cl (s 1))) f92_68 hst.2.2.1.2.1 rfl en ?_
        refine k_ic_ge f92_71 (fun h_ => absurd h_ (nI_ge hin (by omega))) (fun _ => ?_)
        refine k_aload f92_74 rfl ?_
        refine k_getr (q := 17) f92_75 hS.o0 rfl hR.r0_5 ?_
        refine k_getr (q := 18) f92_78 hS.o17 rfl hR.r17_5 ?_
        refine k_iload f92_81 rfl ?_
        refine k_aar (k := i) (q := 17 + 2 + i) f92_82 hS.a18 rfl rfl (by omega) (by decide) (hst.1.2.2.2 i hi8).1 ?_
        refine k_gI (w := s (131 + i)) f92_83 (hst.1.2.2.2 i hi8).2 rfl cn.2.2.2.2.2.2 ?_
        refine k_istore (L' := [.ref 0, .int (wh), .int (nI (2 ^ md - 1)), .int (nI i), .int (s (131 + i)), u5, u6]) f92_86 rfl rfl ?_
        refine k_iload f92_88 rfl ?_
        refine k_iconst (v := (-1)) f92_90 rfl ?_
        refine k_ic_eq f92_91 (fun h_ => absurd h_ (he)) (fun _ => ?_)
        refine k_aload f92_94 rfl ?_
        refine k_iload f92_95 rfl ?_
        refine k_callv (as := [.int (nI i)]) (rest := []) f92_96 hS.o0 rfl rfl rfl rfl (q_layWays (c := i) hR hS hst hO1 hA hin) ?_
        rintro _ _ ⟨rfl, I1, J1, R1, bo, rfl, hl1, hc1⟩
        have hR1 : Rs R1 := hc1.rs hS hR
        refine k_aload f92_99 rfl ?_
        refine k_iload f92_100 rfl ?_
        refine k_iload f92_101 rfl ?_
        refine k_iconst (v := 1) f92_103 rfl ?_
        refine k_ic_ne f92_104 (fun h_ => absurd (h1) h_) (fun _ => ?_)
        refine k_iconst (v := 1) f92_107 rfl ?_
        refine k_goto f92_108 ?_
        refine k_callv (as := [.int (1), .int (nI (2 ^ md - 1))]) (rest := []) f92_112 hS.o0 rfl rfl rfl rfl (q_strike1 (ps := psA I0 s md i) hR1 hS hO hin hm hl1 (fun k hk => (hc1.1 48 k (by omega)).trans (hps k hk))) ?_
        rintro _ _ ⟨rfl, I2, rfl, hl2, hps2, hf2⟩
        have hc2 : CFh I0 R0 I2 R1 := hz.trans ((CFr.h hc1).trans ⟨fun p k hp => hf2 p k (by omega) (by omega), fun _ _ _ => rfl⟩)
        refine k_iinc (w := nI (i + 1)) (L' := [.ref 0, .int (wh), .int (nI (2 ^ md - 1)), .int (nI (i + 1)), .int (s (131 + i)), u5, u6]) f92_115 rfl (nI_1 i) rfl rfl ?_
        refine k_goto f92_118 ?_
        exact ih (i + 1) I2 J1 R1 _ _ _ (by omega) ⟨hc2, fun k hk => by rw [hps2 k hk, sk_kr kr, show psA I0 s md (i + 1) k = (psA I0 s md i k && sk I0 s md i true k) from by simp [psA, tlB, he, h1]]⟩
      · refine k_iload f92_60 rfl ?_
        refine k_aload f92_61 rfl ?_
        refine k_getr (q := 17) f92_62 hS.o0 rfl hR.r0_5 ?_
        refine k_getr (q := pl) f92_65 hS.o17 rfl hst.2.1 ?_
        refine k_gI (w := nI (cl (s 1))) f92_68 hst.2.2.1.2.1 rfl en ?_
        refine k_ic_ge f92_71 (fun h_ => absurd h_ (nI_ge hin (by omega))) (fun _ => ?_)
        refine k_aload f92_74 rfl ?_
        refine k_getr (q := 17) f92_75 hS.o0 rfl hR.r0_5 ?_
        refine k_getr (q := 18) f92_78 hS.o17 rfl hR.r17_5 ?_
        refine k_iload f92_81 rfl ?_
        refine k_aar (k := i) (q := 17 + 2 + i) f92_82 hS.a18 rfl rfl (by omega) (by decide) (hst.1.2.2.2 i hi8).1 ?_
        refine k_gI (w := s (131 + i)) f92_83 (hst.1.2.2.2 i hi8).2 rfl cn.2.2.2.2.2.2 ?_
        refine k_istore (L' := [.ref 0, .int (wh), .int (nI (2 ^ md - 1)), .int (nI i), .int (s (131 + i)), u5, u6]) f92_86 rfl rfl ?_
        refine k_iload f92_88 rfl ?_
        refine k_iconst (v := (-1)) f92_90 rfl ?_
        refine k_ic_eq f92_91 (fun h_ => absurd h_ (he)) (fun _ => ?_)
        refine k_aload f92_94 rfl ?_
        refine k_iload f92_95 rfl ?_
        refine k_callv (as := [.int (nI i)]) (rest := []) f92_96 hS.o0 rfl rfl rfl rfl (q_layWays (c := i) hR hS hst hO1 hA hin) ?_
        rintro _ _ ⟨rfl, I1, J1, R1, bo, rfl, hl1, hc1⟩
        have hR1 : Rs R1 := hc1.rs hS hR
        refine k_aload f92_99 rfl ?_
        refine k_iload f92_100 rfl ?_
        refine k_iload f92_101 rfl ?_
        refine k_iconst (v := 1) f92_103 rfl ?_
        refine k_ic_ne f92_104 (fun _ => ?_) (fun h_ => absurd (h1) h_)
        refine k_iconst (v := 0) f92_111 rfl ?_
        refine k_callv (as := [.int (0), .int (nI (2 ^ md - 1))]) (rest := []) f92_112 hS.o0 rfl rfl rfl rfl (q_strike0 (ps := psA I0 s md i) hR1 hS hO hin hm hl1 (fun k hk => (hc1.1 48 k (by omega)).trans (hps k hk))) ?_
        rintro _ _ ⟨rfl, I2, rfl, hl2, hps2, hf2⟩
        have hc2 : CFh I0 R0 I2 R1 := hz.trans ((CFr.h hc1).trans ⟨fun p k hp => hf2 p k (by omega) (by omega), fun _ _ _ => rfl⟩)
        refine k_iinc (w := nI (i + 1)) (L' := [.ref 0, .int (wh), .int (nI (2 ^ md - 1)), .int (nI (i + 1)), .int (s (131 + i)), u5, u6]) f92_115 rfl (nI_1 i) rfl rfl ?_
        refine k_goto f92_118 ?_
        exact ih (i + 1) I2 J1 R1 _ _ _ (by omega) ⟨hc2, fun k hk => by rw [hps2 k hk, sk_kr kr, show psA I0 s md (i + 1) k = (psA I0 s md i k && sk I0 s md i false k) from by simp [psA, tlB, he, h1]]⟩
