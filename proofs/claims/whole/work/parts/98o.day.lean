/-! A MEETING and a DAY, in the class. -/
theorem held_eq {s : Nat → Int32} {p : Int32} : ∀ n, n ≤ 8 → ∃ k, k < 2 ^ n ∧ acc (fH s p) n = nI k ∧ ∀ c, k.testBit c = true ↔ c < n ∧ s (8 + 6 * c + 1) = p := by
  intro n
  induction n with
  | zero => intro _; exact ⟨0, by decide, rfl, fun c => by simp⟩
  | succ n ih =>
    intro hn
    obtain ⟨k, k1, k2, k3⟩ := ih (by omega)
    rw [acc_s, fH, k2]
    by_cases g : s (8 + 6 * n + 1) = p
    · rw [if_pos g, sh_1 n (by omega), nI_or]
      refine ⟨_, Nat.or_lt_two_pow (Nat.lt_of_lt_of_le k1 (Nat.pow_le_pow_right (by omega) (by omega))) (Nat.pow_lt_pow_right (by omega) (by omega)), rfl, fun c => ?_⟩
      rw [or_bit, k3]
      refine ⟨fun h => ?_, fun h => ?_⟩
      · rcases h with h | h
        · exact ⟨by omega, h.2⟩
        · subst h; exact ⟨by omega, g⟩
      · by_cases q : n = c
        · exact Or.inr q
        · exact Or.inl ⟨by omega, h.2⟩
    · rw [if_neg g]
      refine ⟨k, Nat.lt_of_lt_of_le k1 (Nat.pow_le_pow_right (by omega) (by omega)), rfl, fun c => ?_⟩
      rw [k3]
      refine ⟨fun h => ⟨by omega, h.2⟩, fun h => ⟨?_, h.2⟩⟩
      by_cases q : n = c
      · subst q; exact absurd h.2 g
      · omega
theorem lt_1024 {k n : Nat} (h : k < 2 ^ n) (hn : n ≤ 8) : k < 1024 := Nat.lt_of_lt_of_le h (Nat.le_trans (Nat.pow_le_pow_right (by omega) hn) (by decide))
def mtC (so : (Nat → Int64) → Nat → Bool) (n a b : Nat) (z : (Nat → Int32) × Int32) : (Nat → Int32) × Int32 :=
  foL (gvC so n (cl (acc (fH z.1 (nI b)) n)) a) 0 n (foL (gvC so n (cl (acc (fH z.1 (nI a)) n)) b) 0 n z)
def dyC (so : (Nat → Int64) → Nat → Bool) (n m : Nat) (z : (Nat → Int32) × Int32) : (Nat → Int32) × Int32 :=
  if z.1 (56 + 3 * m) = z.1 3 then mtC so n (cl (z.1 (56 + 3 * m + 1))) (cl (z.1 (56 + 3 * m + 2))) z else z
def drC (so : (Nat → Int64) → Nat → Bool) (n a b : Nat) (z : (Nat → Int32) × Int32) : (Nat → Int32) × Int32 := if a = b then z else mtC so n a b z
def capC (v : Int32) : Int32 := if (19999 : Int32) < v + 1 then 19999 else v + 1
def dnC (v : Int32) (z : (Nat → Int32) × Int32) : (Nat → Int32) × Int32 := (fu z.1 3 v, z.2)
theorem SW.day {s : Nat → Int32} {v : Int32} (h : SW s) : SW (fu s 3 v) := by
  have n : ∀ j, j ≠ 3 → fu s 3 v j = s j := fun j hj => fu_no _ _ hj
  refine ⟨by rw [n 0 (by omega)]; exact h.1, by rw [n 1 (by omega)]; exact h.2.1, fun c hc => ?_⟩
  rw [n 1 (by omega)] at hc
  exact (h.2.2 c hc).cg (n 0 (by omega)) fun k _ => n _ (by omega)
theorem AF.day {s0 s : Nat → Int32} (v : Int32) (h : AF s0 s) : AF (fu s0 3 v) (fu s 3 v) := by
  intro i hi
  unfold fu
  by_cases q : i = 3
  · rw [if_pos q, if_pos q]
  · rw [if_neg q, if_neg q]
    exact h i hi
theorem CZ.day {I0 I : Nat → Nat → Int32} {R : Nat → Nat → Option Nat} {G : zG} {st pl : Nat} {s0 : Nat → Int32} {z : (Nat → Int32) × Int32} (v : Int32) (h : CZ I0 R G st pl s0 z I) (hs : st = 17 ∨ st = 27) (hm : cl (s0 2) ≤ 25) : CZ I0 R G st pl (fu s0 3 v) (dnC v z) (z_u I st 1 v) := by
  obtain ⟨h1, h2, h3, h4, h5⟩ := h
  have b1 := h3.2.1.2
  have hpl := h1.2.2.1.1
  refine ⟨h1.up v (by omega) (by omega) (by unfold plc; omega) (by rw [h4 2 (by omega)]; exact hm), (z_u_p _ _ _ _ (by omega)).trans h2, h3.day, h4.day v, fun q k g1 g2 => ?_⟩
  rw [z_u_p _ _ _ _ (by omega)]
  exact h5 q k g1 g2
theorem q_meet {x : Nat × (Nat → Int32)} {d : Nat} {R : Nat → Nat → Option Nat} {G : zG} {I0 : Nat → Nat → Int32} {s0 : Nat → Int32} {I : Nat → Nat → Int32} {J : Nat → Nat → Int64} {z : (Nat → Int32) × Int32} {st pl t r n a b : Nat} (hR : Rs R) (hS : Sh G) (hst2 : st = 17 ∨ st = 27) (hru : RuR I0 R G t r) (hn : s0 1 = nI n) (hn8 : n ≤ 8) (hm : cl (s0 2) ≤ 25) (ha : a < cl (s0 0)) (hb : b < cl (s0 0)) (hz : CZ I0 R G st pl s0 z I) : zOk x (d + 4) 16 0 [.ref 42, .ref st, .ref r, .int (nI a), .int (nI b), zU] [] (I, J, R, G) (fun v m => v = none ∧ ∃ I' J', m = (I', J', R, G) ∧ CZ I0 R G st pl s0 (mtC (soB I0 t) n a b z) I') := by
  have hst : StR I R G st pl z.1 := hz.1
  have e1 : z.1 1 = nI n := (hz.2.2.2.1 1 (by omega)).trans hn
  have en : I pl 2 = nI n := hst.2.2.2.1.2.2.1.trans e1
  have c1 : cl (z.1 1) = n := by rw [e1, cl_nI (by omega)]
  have hkr : Kr I0 I := hz.kr hst2
  have hz4 : zo G r 4 := by obtain ⟨_, _, _, _, _, h, _⟩ := hru; exact h.2.1
  have h11 : cl (s0 0) < 11 := by rw [← hz.2.2.2.1 0 (by omega)]; exact hz.2.2.1.1.2
  obtain ⟨ka, ea1, ea2, ea3⟩ := held_eq (s := z.1) (p := nI a) n hn8
  obtain ⟨kb, eb1, eb2, eb3⟩ := held_eq (s := z.1) (p := nI b) n hn8
  refine k_aload f16_0 rfl ?_
  refine k_iload f16_1 rfl ?_
  refine e_v (as := [.int (nI b)]) (rest := []) f16_3 hst.1.1 rfl rfl rfl ((by have h := s_held (x := x) (d := d + 3) (J := J) (p := nI b) hst e1 hn8; rw [eb2] at h; exact h)) ?_
  refine k_istore (L' := [.ref 42, .ref st, .ref r, .int (nI a), .int (nI b), .int (nI kb)]) f16_6 rfl rfl ?_
  refine k_aload f16_8 rfl ?_
  refine k_aload f16_9 rfl ?_
  refine k_aload f16_10 rfl ?_
  refine k_aload f16_11 rfl ?_
  refine k_iload f16_12 rfl ?_
  refine e_v (as := [.int (nI a)]) (rest := [.ref r, .ref st, .ref 42]) f16_13 hst.1.1 rfl rfl rfl ((by have h := s_held (x := x) (d := d + 3) (J := J) (p := nI a) hst e1 hn8; rw [ea2] at h; exact h)) ?_
  refine k_iload f16_16 rfl ?_
  refine k_callv (as := [.int (nI b), .int (nI ka), .ref r, .ref st]) (rest := []) f16_18 hS.o42 rfl rfl rfl rfl (q_hand (b := ka) (p := b) hR hS hst2 hru hn hn8 hm (lt_1024 ea1 hn8) hb (by omega) hz) ?_
  rintro _ _ ⟨rfl, I1, J1, rfl, hz1⟩
  refine k_aload f16_21 rfl ?_
  refine k_aload f16_22 rfl ?_
  refine k_aload f16_23 rfl ?_
  refine k_iload f16_24 rfl ?_
  refine k_iload f16_26 rfl ?_
  refine k_callv (as := [.int (nI a), .int (nI kb), .ref r, .ref st]) (rest := []) f16_27 hS.o42 rfl rfl rfl rfl (q_hand (b := kb) (p := a) hR hS hst2 hru hn hn8 hm (lt_1024 eb1 hn8) ha (by omega) hz1) ?_
  rintro _ _ ⟨rfl, I2, J2, rfl, hz2⟩
  exact k_vret f16_30 ⟨rfl, I2, J2, rfl, by unfold mtC; rw [eb2, ea2, cl_nI (by have := lt_1024 eb1 hn8; omega), cl_nI (by have := lt_1024 ea1 hn8; omega)]; exact hz2⟩
theorem lp_day2 {x : Nat × (Nat → Int32)} {d : Nat} {R : Nat → Nat → Option Nat} {G : zG} {I0 : Nat → Nat → Int32} {s0 : Nat → Int32} {st pl t r n a b : Nat} (hR : Rs R) (hS : Sh G) (hst2 : st = 17 ∨ st = 27) (hru : RuR I0 R G t r) (hn : s0 1 = nI n) (hn8 : n ≤ 8) (hm : cl (s0 2) ≤ 25) : ∀ (f i : Nat) (z : (Nat → Int32) × Int32) (I : Nat → Nat → Int32) (J : Nat → Nat → Int64) (u : Value), i + f = n → CZ I0 R G st pl s0 z I → zOk x (d + 5) 15 80 [.ref 42, .ref st, .ref r, .int (nI a), .int (nI b), .ref pl, .int (nI i), u] [] (I, J, R, G) (fun v m => v = none ∧ ∃ I' J', m = (I', J', R, G) ∧ CZ I0 R G st pl (fu s0 3 (capC (s0 3))) (dnC (capC (s0 3)) (foL (hmC (soB I0 t) n) i f z)) I') := by
  intro f
  induction f with
  | zero =>
    intro i z I J u hi hz
    have hst : StR I R G st pl z.1 := hz.1
    have e1 : z.1 1 = nI n := (hz.2.2.2.1 1 (by omega)).trans hn
    have en : I pl 2 = nI n := hst.2.2.2.1.2.2.1.trans e1
    have c1 : cl (z.1 1) = n := by rw [e1, cl_nI (by omega)]
    have hkr : Kr I0 I := hz.kr hst2
    have hz4 : zo G r 4 := by obtain ⟨_, _, _, _, _, h, _⟩ := hru; exact h.2.1
    refine k_iload f15_80 rfl ?_
    refine k_aload f15_82 rfl ?_
    refine k_gI (w := nI n) f15_84 hst.2.2.1.2.1 rfl en ?_
    refine k_ic_ge f15_87 (fun _ => ?_) (fun h_ => absurd (nI_le (by omega) (by omega)) h_)
    refine k_aload f15_162 rfl ?_
    refine k_aload f15_163 rfl ?_
    refine k_gI (w := z.1 3) f15_164 hst.1.1 rfl hst.2.2.2.2.1 ?_
    refine k_iconst (v := 1) f15_167 rfl ?_
    refine k_iadd f15_168 ?_
    refine k_iconst (v := 19999) f15_169 rfl ?_
    refine k_min f15_172 rfl ?_
    refine k_putI f15_175 hst.1.1 rfl ?_
    exact k_vret f15_178 ⟨rfl, _, J, rfl, (congrArg capC (hz.2.2.2.1 3 (by omega))) ▸ hz.day (capC (z.1 3)) hst2 hm⟩
  | succ f ih =>
    intro i z I J u hi hz
    have hst : StR I R G st pl z.1 := hz.1
    have e1 : z.1 1 = nI n := (hz.2.2.2.1 1 (by omega)).trans hn
    have en : I pl 2 = nI n := hst.2.2.2.1.2.2.1.trans e1
    have c1 : cl (z.1 1) = n := by rw [e1, cl_nI (by omega)]
    have hkr : Kr I0 I := hz.kr hst2
    have hz4 : zo G r 4 := by obtain ⟨_, _, _, _, _, h, _⟩ := hru; exact h.2.1
    have hin : i < n := by omega
    have hi8 : i < 8 := by omega
    have hcn : i < cl (z.1 1) := by omega
    have cn := hst.2.2.2.2.2.2.2.2 i hcn
    have cok := hz.2.2.1.2.2 i hcn
    by_cases hF : z.1 (8 + 6 * i + 4) = 0
    · refine k_iload f15_80 rfl ?_
      refine k_aload f15_82 rfl ?_
      refine k_gI (w := nI n) f15_84 hst.2.2.1.2.1 rfl en ?_
      refine k_ic_ge f15_87 (fun h_ => absurd h_ (nI_ge hin (by omega))) (fun _ => ?_)
      refine k_aload f15_90 rfl ?_
      refine k_getr (q := st + 1) f15_91 hst.1.1 rfl hst.1.2.1 ?_
      refine k_iload f15_94 rfl ?_
      refine k_aar (k := i) (q := st + 2 + i) f15_96 hst.1.2.2.1 rfl rfl (by omega) (by decide) (hst.1.2.2.2 i hi8).1 ?_
      refine k_astore (L' := [.ref 42, .ref st, .ref r, .int (nI a), .int (nI b), .ref pl, .int (nI i), .ref (st + 2 + i)]) f15_97 rfl rfl ?_
      refine k_aload f15_99 rfl ?_
      refine k_gI (w := z.1 (8 + 6 * i + 4)) f15_101 (hst.1.2.2.2 i hi8).2 rfl cn.2.2.2.2.1 ?_
      refine k_if_eq f15_104 (fun _ => ?_) (fun h_ => absurd (hF) h_)
      refine k_iinc (w := nI (i + 1)) (L' := [.ref 42, .ref st, .ref r, .int (nI a), .int (nI b), .ref pl, .int (nI (i + 1)), .ref (st + 2 + i)]) f15_156 rfl (nI_1 i) rfl rfl ?_
      refine k_goto f15_159 ?_
      rw [foL_s, show hmC (soB I0 t) n i z = z from if_neg fun h => h.1 hF]
      exact ih (i + 1) z I J _ (by omega) hz
    · by_cases hV : ¬ z.1 3 - z.1 (8 + 6 * i + 2) ≤ z.1 7
      · refine k_iload f15_80 rfl ?_
        refine k_aload f15_82 rfl ?_
        refine k_gI (w := nI n) f15_84 hst.2.2.1.2.1 rfl en ?_
        refine k_ic_ge f15_87 (fun h_ => absurd h_ (nI_ge hin (by omega))) (fun _ => ?_)
        refine k_aload f15_90 rfl ?_
        refine k_getr (q := st + 1) f15_91 hst.1.1 rfl hst.1.2.1 ?_
        refine k_iload f15_94 rfl ?_
        refine k_aar (k := i) (q := st + 2 + i) f15_96 hst.1.2.2.1 rfl rfl (by omega) (by decide) (hst.1.2.2.2 i hi8).1 ?_
        refine k_astore (L' := [.ref 42, .ref st, .ref r, .int (nI a), .int (nI b), .ref pl, .int (nI i), .ref (st + 2 + i)]) f15_97 rfl rfl ?_
        refine k_aload f15_99 rfl ?_
        refine k_gI (w := z.1 (8 + 6 * i + 4)) f15_101 (hst.1.2.2.2 i hi8).2 rfl cn.2.2.2.2.1 ?_
        refine k_if_eq f15_104 (fun h_ => absurd h_ (hF)) (fun _ => ?_)
        refine k_aload f15_107 rfl ?_
        refine k_aload f15_108 rfl ?_
        refine e_v (as := [.ref (st + 2 + i)]) (rest := []) f15_110 hst.1.1 rfl rfl rfl (s_isVoidC (c := i) hst cn (hst.1.2.2.2 i hi8).2) ?_
        refine k_bne f15_113 (fun _ => ?_) (fun h_ => absurd (hV) h_)
        refine k_iinc (w := nI (i + 1)) (L' := [.ref 42, .ref st, .ref r, .int (nI a), .int (nI b), .ref pl, .int (nI (i + 1)), .ref (st + 2 + i)]) f15_156 rfl (nI_1 i) rfl rfl ?_
        refine k_goto f15_159 ?_
        rw [foL_s, show hmC (soB I0 t) n i z = z from if_neg fun h => hV h.2.1]
        exact ih (i + 1) z I J _ (by omega) hz
      · by_cases h1 : soB I0 t (wH z.1 n i) 1 = true
        · refine k_iload f15_80 rfl ?_
          refine k_aload f15_82 rfl ?_
          refine k_gI (w := nI n) f15_84 hst.2.2.1.2.1 rfl en ?_
          refine k_ic_ge f15_87 (fun h_ => absurd h_ (nI_ge hin (by omega))) (fun _ => ?_)
          refine k_aload f15_90 rfl ?_
          refine k_getr (q := st + 1) f15_91 hst.1.1 rfl hst.1.2.1 ?_
          refine k_iload f15_94 rfl ?_
          refine k_aar (k := i) (q := st + 2 + i) f15_96 hst.1.2.2.1 rfl rfl (by omega) (by decide) (hst.1.2.2.2 i hi8).1 ?_
          refine k_astore (L' := [.ref 42, .ref st, .ref r, .int (nI a), .int (nI b), .ref pl, .int (nI i), .ref (st + 2 + i)]) f15_97 rfl rfl ?_
          refine k_aload f15_99 rfl ?_
          refine k_gI (w := z.1 (8 + 6 * i + 4)) f15_101 (hst.1.2.2.2 i hi8).2 rfl cn.2.2.2.2.1 ?_
          refine k_if_eq f15_104 (fun h_ => absurd h_ (hF)) (fun _ => ?_)
          refine k_aload f15_107 rfl ?_
          refine k_aload f15_108 rfl ?_
          refine e_v (as := [.ref (st + 2 + i)]) (rest := []) f15_110 hst.1.1 rfl rfl rfl (s_isVoidC (c := i) hst cn (hst.1.2.2.2 i hi8).2) ?_
          refine k_bne f15_113 (fun h_ => absurd h_ (hV)) (fun _ => ?_)
          refine k_aload f15_116 rfl ?_
          refine k_getr (q := 39) f15_117 hS.o42 rfl hR.r42_0 ?_
          refine k_aload f15_120 rfl ?_
          refine k_iload f15_121 rfl ?_
          refine k_callv (as := [.int (nI i), .ref st]) (rest := []) f15_123 hS.o39 rfl rfl rfl rfl (q_home (c := i) hR hS hst e1 hn8 hin cok.2.1 cok.2.2) ?_
          rintro _ _ ⟨rfl, J1, rfl, hJ1⟩
          refine k_aload f15_126 rfl ?_
          refine k_iconst (v := 2) f15_127 rfl ?_
          refine k_aload f15_128 rfl ?_
          refine k_getr (q := 39) f15_129 hS.o42 rfl hR.r42_0 ?_
          refine k_callv (as := [.ref 39, .int (2)]) (rest := []) f15_132 hz4 rfl rfl rfl rfl (q_some (kd := 1) (w := wH z.1 n i) hR hS hkr hru (by decide) hJ1) ?_
          rintro _ _ ⟨rfl, J2, rfl, hJ2⟩
          refine k_bne f15_135 (fun _ => ?_) (fun h_ => absurd (h1) h_)
          refine k_iinc (w := nI (i + 1)) (L' := [.ref 42, .ref st, .ref r, .int (nI a), .int (nI b), .ref pl, .int (nI (i + 1)), .ref (st + 2 + i)]) f15_156 rfl (nI_1 i) rfl rfl ?_
          refine k_goto f15_159 ?_
          rw [foL_s, show hmC (soB I0 t) n i z = z from if_neg fun h => h.2.2.1 h1]
          exact ih (i + 1) z I J2 _ (by omega) hz
        · by_cases h2 : soB I0 t (wH z.1 n i) 2 = true
          · refine k_iload f15_80 rfl ?_
            refine k_aload f15_82 rfl ?_
            refine k_gI (w := nI n) f15_84 hst.2.2.1.2.1 rfl en ?_
            refine k_ic_ge f15_87 (fun h_ => absurd h_ (nI_ge hin (by omega))) (fun _ => ?_)
            refine k_aload f15_90 rfl ?_
            refine k_getr (q := st + 1) f15_91 hst.1.1 rfl hst.1.2.1 ?_
            refine k_iload f15_94 rfl ?_
            refine k_aar (k := i) (q := st + 2 + i) f15_96 hst.1.2.2.1 rfl rfl (by omega) (by decide) (hst.1.2.2.2 i hi8).1 ?_
            refine k_astore (L' := [.ref 42, .ref st, .ref r, .int (nI a), .int (nI b), .ref pl, .int (nI i), .ref (st + 2 + i)]) f15_97 rfl rfl ?_
            refine k_aload f15_99 rfl ?_
            refine k_gI (w := z.1 (8 + 6 * i + 4)) f15_101 (hst.1.2.2.2 i hi8).2 rfl cn.2.2.2.2.1 ?_
            refine k_if_eq f15_104 (fun h_ => absurd h_ (hF)) (fun _ => ?_)
            refine k_aload f15_107 rfl ?_
            refine k_aload f15_108 rfl ?_
            refine e_v (as := [.ref (st + 2 + i)]) (rest := []) f15_110 hst.1.1 rfl rfl rfl (s_isVoidC (c := i) hst cn (hst.1.2.2.2 i hi8).2) ?_
            refine k_bne f15_113 (fun h_ => absurd h_ (hV)) (fun _ => ?_)
            refine k_aload f15_116 rfl ?_
            refine k_getr (q := 39) f15_117 hS.o42 rfl hR.r42_0 ?_
            refine k_aload f15_120 rfl ?_
            refine k_iload f15_121 rfl ?_
            refine k_callv (as := [.int (nI i), .ref st]) (rest := []) f15_123 hS.o39 rfl rfl rfl rfl (q_home (c := i) hR hS hst e1 hn8 hin cok.2.1 cok.2.2) ?_
            rintro _ _ ⟨rfl, J1, rfl, hJ1⟩
            refine k_aload f15_126 rfl ?_
            refine k_iconst (v := 2) f15_127 rfl ?_
            refine k_aload f15_128 rfl ?_
            refine k_getr (q := 39) f15_129 hS.o42 rfl hR.r42_0 ?_
            refine k_callv (as := [.ref 39, .int (2)]) (rest := []) f15_132 hz4 rfl rfl rfl rfl (q_some (kd := 1) (w := wH z.1 n i) hR hS hkr hru (by decide) hJ1) ?_
            rintro _ _ ⟨rfl, J2, rfl, hJ2⟩
            refine k_bne f15_135 (fun h_ => absurd h_ (h1)) (fun _ => ?_)
            refine k_aload f15_138 rfl ?_
            refine k_iconst (v := 3) f15_139 rfl ?_
            refine k_aload f15_140 rfl ?_
            refine k_getr (q := 39) f15_141 hS.o42 rfl hR.r42_0 ?_
            refine k_callv (as := [.ref 39, .int (3)]) (rest := []) f15_144 hz4 rfl rfl rfl rfl (q_some (kd := 2) (w := wH z.1 n i) hR hS hkr hru (by decide) (fun j h1 h2 => (congrFun (hJ2 40 (by decide)) j).trans (hJ1 j h1 h2))) ?_
            rintro _ _ ⟨rfl, J3, rfl, hJ3⟩
            refine k_beq f15_147 (fun h_ => absurd (h2) h_) (fun _ => ?_)
            refine k_aload f15_150 rfl ?_
            refine k_aload f15_151 rfl ?_
            refine e_v (as := [.ref (st + 2 + i)]) (rest := []) f15_153 hst.1.1 rfl rfl rfl (s_bringHome (st := st) (q := st + 2 + i) hst.1.1 (hst.1.2.2.2 i hi8).2 (by omega) hst.2.2.2.2.1 hst.2.2.2.2.2.1 cn.2.1 cn.2.2.2.2.2.1) ?_
            refine k_iinc (w := nI (i + 1)) (L' := [.ref 42, .ref st, .ref r, .int (nI a), .int (nI b), .ref pl, .int (nI (i + 1)), .ref (st + 2 + i)]) f15_156 rfl (nI_1 i) rfl rfl ?_
            refine k_goto f15_159 ?_
            rw [foL_s, show hmC (soB I0 t) n i z = (homR z.1 i, z.2) from if_pos ⟨hF, Classical.not_not.mp hV, h1, h2⟩]
            exact ih (i + 1) (homR z.1 i, z.2) _ J3 _ (by omega) (hz.hom hst2 hm hcn)
          · refine k_iload f15_80 rfl ?_
            refine k_aload f15_82 rfl ?_
            refine k_gI (w := nI n) f15_84 hst.2.2.1.2.1 rfl en ?_
            refine k_ic_ge f15_87 (fun h_ => absurd h_ (nI_ge hin (by omega))) (fun _ => ?_)
            refine k_aload f15_90 rfl ?_
            refine k_getr (q := st + 1) f15_91 hst.1.1 rfl hst.1.2.1 ?_
            refine k_iload f15_94 rfl ?_
            refine k_aar (k := i) (q := st + 2 + i) f15_96 hst.1.2.2.1 rfl rfl (by omega) (by decide) (hst.1.2.2.2 i hi8).1 ?_
            refine k_astore (L' := [.ref 42, .ref st, .ref r, .int (nI a), .int (nI b), .ref pl, .int (nI i), .ref (st + 2 + i)]) f15_97 rfl rfl ?_
            refine k_aload f15_99 rfl ?_
            refine k_gI (w := z.1 (8 + 6 * i + 4)) f15_101 (hst.1.2.2.2 i hi8).2 rfl cn.2.2.2.2.1 ?_
            refine k_if_eq f15_104 (fun h_ => absurd h_ (hF)) (fun _ => ?_)
            refine k_aload f15_107 rfl ?_
            refine k_aload f15_108 rfl ?_
            refine e_v (as := [.ref (st + 2 + i)]) (rest := []) f15_110 hst.1.1 rfl rfl rfl (s_isVoidC (c := i) hst cn (hst.1.2.2.2 i hi8).2) ?_
            refine k_bne f15_113 (fun h_ => absurd h_ (hV)) (fun _ => ?_)
            refine k_aload f15_116 rfl ?_
            refine k_getr (q := 39) f15_117 hS.o42 rfl hR.r42_0 ?_
            refine k_aload f15_120 rfl ?_
            refine k_iload f15_121 rfl ?_
            refine k_callv (as := [.int (nI i), .ref st]) (rest := []) f15_123 hS.o39 rfl rfl rfl rfl (q_home (c := i) hR hS hst e1 hn8 hin cok.2.1 cok.2.2) ?_
            rintro _ _ ⟨rfl, J1, rfl, hJ1⟩
            refine k_aload f15_126 rfl ?_
            refine k_iconst (v := 2) f15_127 rfl ?_
            refine k_aload f15_128 rfl ?_
            refine k_getr (q := 39) f15_129 hS.o42 rfl hR.r42_0 ?_
            refine k_callv (as := [.ref 39, .int (2)]) (rest := []) f15_132 hz4 rfl rfl rfl rfl (q_some (kd := 1) (w := wH z.1 n i) hR hS hkr hru (by decide) hJ1) ?_
            rintro _ _ ⟨rfl, J2, rfl, hJ2⟩
            refine k_bne f15_135 (fun h_ => absurd h_ (h1)) (fun _ => ?_)
            refine k_aload f15_138 rfl ?_
            refine k_iconst (v := 3) f15_139 rfl ?_
            refine k_aload f15_140 rfl ?_
            refine k_getr (q := 39) f15_141 hS.o42 rfl hR.r42_0 ?_
            refine k_callv (as := [.ref 39, .int (3)]) (rest := []) f15_144 hz4 rfl rfl rfl rfl (q_some (kd := 2) (w := wH z.1 n i) hR hS hkr hru (by decide) (fun j h1 h2 => (congrFun (hJ2 40 (by decide)) j).trans (hJ1 j h1 h2))) ?_
            rintro _ _ ⟨rfl, J3, rfl, hJ3⟩
            refine k_beq f15_147 (fun _ => ?_) (fun h_ => (absurd h_ (h2)))
            refine k_iinc (w := nI (i + 1)) (L' := [.ref 42, .ref st, .ref r, .int (nI a), .int (nI b), .ref pl, .int (nI (i + 1)), .ref (st + 2 + i)]) f15_156 rfl (nI_1 i) rfl rfl ?_
            refine k_goto f15_159 ?_
            rw [foL_s, show hmC (soB I0 t) n i z = z from if_neg fun h => h2 h.2.2.2]
            exact ih (i + 1) z I J3 _ (by omega) hz
theorem day_mid {x : Nat × (Nat → Int32)} {d : Nat} {R : Nat → Nat → Option Nat} {G : zG} {I0 : Nat → Nat → Int32} {s0 : Nat → Int32} {I : Nat → Nat → Int32} {J : Nat → Nat → Int64} {z : (Nat → Int32) × Int32} {st pl t r n a b : Nat} {e : Int32} {u : Value} (hR : Rs R) (hS : Sh G) (hst2 : st = 17 ∨ st = 27) (hru : RuR I0 R G t r) (hn : s0 1 = nI n) (hn8 : n ≤ 8) (hm : cl (s0 2) ≤ 25) (ha31 : a < 2 ^ 31) (hb31 : b < 2 ^ 31) (hab : a ≠ b → a < cl (s0 0) ∧ b < cl (s0 0)) (hz : CZ I0 R G st pl s0 z I) : zOk x (d + 5) 15 62 [.ref 42, .ref st, .ref r, .int (nI a), .int (nI b), .ref pl, .int (e), u] [] (I, J, R, G) (fun v m => v = none ∧ ∃ I' J', m = (I', J', R, G) ∧ CZ I0 R G st pl (fu s0 3 (capC (s0 3))) (dnC (capC (s0 3)) (foL (hmC (soB I0 t) n) 0 n (drC (soB I0 t) n a b z))) I') := by
  have hst : StR I R G st pl z.1 := hz.1
  have e1 : z.1 1 = nI n := (hz.2.2.2.1 1 (by omega)).trans hn
  have en : I pl 2 = nI n := hst.2.2.2.1.2.2.1.trans e1
  have c1 : cl (z.1 1) = n := by rw [e1, cl_nI (by omega)]
  have hkr : Kr I0 I := hz.kr hst2
  have hz4 : zo G r 4 := by obtain ⟨_, _, _, _, _, h, _⟩ := hru; exact h.2.1
  by_cases hq : nI a = nI b
  · refine k_iload f15_62 rfl ?_
    refine k_iload f15_63 rfl ?_
    refine k_ic_eq f15_65 (fun _ => ?_) (fun h_ => absurd (hq) h_)
    refine k_iconst (v := 0) f15_77 rfl ?_
    refine k_istore (L' := [.ref 42, .ref st, .ref r, .int (nI a), .int (nI b), .ref pl, .int (0), u]) f15_78 rfl rfl ?_
    rw [show drC (soB I0 t) n a b z = z from if_pos ((nI_eq ha31 hb31).mp hq)]
    exact lp_day2 hR hS hst2 hru hn hn8 hm n 0 z I J _ (by omega) hz
  · have hne : a ≠ b := fun e => hq (by rw [e])
    refine k_iload f15_62 rfl ?_
    refine k_iload f15_63 rfl ?_
    refine k_ic_eq f15_65 (fun h_ => absurd h_ (hq)) (fun _ => ?_)
    refine k_aload f15_68 rfl ?_
    refine k_aload f15_69 rfl ?_
    refine k_aload f15_70 rfl ?_
    refine k_iload f15_71 rfl ?_
    refine k_iload f15_72 rfl ?_
    refine k_callv (as := [.int (nI b), .int (nI a), .ref r, .ref st]) (rest := []) f15_74 hS.o42 rfl rfl rfl rfl (q_meet (a := a) (b := b) hR hS hst2 hru hn hn8 hm (hab hne).1 (hab hne).2 hz) ?_
    rintro _ _ ⟨rfl, I1, J1, rfl, hz1⟩
    refine k_iconst (v := 0) f15_77 rfl ?_
    refine k_istore (L' := [.ref 42, .ref st, .ref r, .int (nI a), .int (nI b), .ref pl, .int (0), u]) f15_78 rfl rfl ?_
    rw [show drC (soB I0 t) n a b z = mtC (soB I0 t) n a b z from if_neg hne]
    exact lp_day2 hR hS hst2 hru hn hn8 hm n 0 _ I1 J1 _ (by omega) hz1
theorem lp_day1 {x : Nat × (Nat → Int32)} {d : Nat} {R : Nat → Nat → Option Nat} {G : zG} {I0 : Nat → Nat → Int32} {s0 : Nat → Int32} {st pl t r n a b : Nat} (hR : Rs R) (hS : Sh G) (hst2 : st = 17 ∨ st = 27) (hru : RuR I0 R G t r) (hn : s0 1 = nI n) (hn8 : n ≤ 8) (hm : cl (s0 2) ≤ 25) (ha31 : a < 2 ^ 31) (hb31 : b < 2 ^ 31) (hab : a ≠ b → a < cl (s0 0) ∧ b < cl (s0 0)) {m : Nat} (hmw : MW s0 m) (hm24 : m ≤ 24) : ∀ (f i : Nat) (z : (Nat → Int32) × Int32) (I : Nat → Nat → Int32) (J : Nat → Nat → Int64) (u : Value), i + f = m → CZ I0 R G st pl s0 z I → zOk x (d + 5) 15 9 [.ref 42, .ref st, .ref r, .int (nI a), .int (nI b), .ref pl, .int (nI i), u] [] (I, J, R, G) (fun v mm => v = none ∧ ∃ I' J', mm = (I', J', R, G) ∧ CZ I0 R G st pl (fu s0 3 (capC (s0 3))) (dnC (capC (s0 3)) (foL (hmC (soB I0 t) n) 0 n (drC (soB I0 t) n a b (foL (dyC (soB I0 t) n) i f z)))) I') := by
  intro f
  induction f with
  | zero =>
    intro i z I J u hi hz
    have hst : StR I R G st pl z.1 := hz.1
    have e1 : z.1 1 = nI n := (hz.2.2.2.1 1 (by omega)).trans hn
    have en : I pl 2 = nI n := hst.2.2.2.1.2.2.1.trans e1
    have c1 : cl (z.1 1) = n := by rw [e1, cl_nI (by omega)]
    have hkr : Kr I0 I := hz.kr hst2
    have hz4 : zo G r 4 := by obtain ⟨_, _, _, _, _, h, _⟩ := hru; exact h.2.1
    have hmz := hmw.af hz.2.2.2.1
    have em : I pl 3 = nI m := hst.2.2.2.1.2.2.2.1.trans hmz.1
    refine k_iload f15_9 rfl ?_
    refine k_aload f15_11 rfl ?_
    refine k_gI (w := nI m) f15_13 hst.2.2.1.2.1 rfl em ?_
    refine k_ic_ge f15_16 (fun _ => ?_) (fun h_ => absurd (nI_le (by omega) (by omega)) h_)
    exact day_mid hR hS hst2 hru hn hn8 hm ha31 hb31 hab hz
  | succ f ih =>
    intro i z I J u hi hz
    have hst : StR I R G st pl z.1 := hz.1
    have e1 : z.1 1 = nI n := (hz.2.2.2.1 1 (by omega)).trans hn
    have en : I pl 2 = nI n := hst.2.2.2.1.2.2.1.trans e1
    have c1 : cl (z.1 1) = n := by rw [e1, cl_nI (by omega)]
    have hkr : Kr I0 I := hz.kr hst2
    have hz4 : zo G r 4 := by obtain ⟨_, _, _, _, _, h, _⟩ := hru; exact h.2.1
    have hmz := hmw.af hz.2.2.2.1
    have em : I pl 3 = nI m := hst.2.2.2.1.2.2.2.1.trans hmz.1
    have hin : i < m := by omega
    have mt := hst.2.2.2.1.2.2.2.2 i (by rw [hmz.1, cl_nI (by omega)]; exact hin)
    have hmi := hmz.2.2 i hin
    have hd := hst.2.2.2.2.1
    by_cases hT : z.1 (56 + 3 * i) = z.1 3
    · refine k_iload f15_9 rfl ?_
      refine k_aload f15_11 rfl ?_
      refine k_gI (w := nI m) f15_13 hst.2.2.1.2.1 rfl em ?_
      refine k_ic_ge f15_16 (fun h_ => absurd h_ (nI_ge hin (by omega))) (fun _ => ?_)
      refine k_aload f15_19 rfl ?_
      refine k_getr (q := pl + 4) f15_21 hst.2.2.1.2.1 rfl (hst.2.2.1.2.2.1 3 (by omega)) ?_
      refine k_iload f15_24 rfl ?_
      refine k_ia (k := i) (w := z.1 (56 + 3 * i)) f15_26 (hst.2.2.1.2.2.2.2 0 (by omega)) rfl (by omega) (by decide) mt.1 ?_
      refine k_aload f15_27 rfl ?_
      refine k_gI (w := z.1 3) f15_28 hst.1.1 rfl hst.2.2.2.2.1 ?_
      refine k_ic_ne f15_31 (fun h_ => absurd (hT) h_) (fun _ => ?_)
      refine k_aload f15_34 rfl ?_
      refine k_aload f15_35 rfl ?_
      refine k_aload f15_36 rfl ?_
      refine k_aload f15_37 rfl ?_
      refine k_getr (q := pl + 5) f15_39 hst.2.2.1.2.1 rfl (hst.2.2.1.2.2.1 4 (by omega)) ?_
      refine k_iload f15_42 rfl ?_
      refine k_ia (k := i) (w := nI (cl (z.1 (56 + 3 * i + 1)))) f15_44 (hst.2.2.1.2.2.2.2 1 (by omega)) rfl (by omega) (by decide) (mt.2.1.trans hmi.1.1) ?_
      refine k_aload f15_45 rfl ?_
      refine k_getr (q := pl + 6) f15_47 hst.2.2.1.2.1 rfl (hst.2.2.1.2.2.1 5 (by omega)) ?_
      refine k_iload f15_50 rfl ?_
      refine k_ia (k := i) (w := nI (cl (z.1 (56 + 3 * i + 2)))) f15_52 (hst.2.2.1.2.2.2.2 2 (by omega)) rfl (by omega) (by decide) (mt.2.2.1.trans hmi.2.1.1) ?_
      refine k_callv (as := [.int (nI (cl (z.1 (56 + 3 * i + 2)))), .int (nI (cl (z.1 (56 + 3 * i + 1)))), .ref r, .ref st]) (rest := []) f15_53 hS.o42 rfl rfl rfl rfl (q_meet (a := cl (z.1 (56 + 3 * i + 1))) (b := cl (z.1 (56 + 3 * i + 2))) hR hS hst2 hru hn hn8 hm (by rw [← hz.2.2.2.1 0 (by omega)]; exact hmi.1.2) (by rw [← hz.2.2.2.1 0 (by omega)]; exact hmi.2.1.2) hz) ?_
      rintro _ _ ⟨rfl, I1, J1, rfl, hz1⟩
      refine k_iinc (w := nI (i + 1)) (L' := [.ref 42, .ref st, .ref r, .int (nI a), .int (nI b), .ref pl, .int (nI (i + 1)), u]) f15_56 rfl (nI_1 i) rfl rfl ?_
      refine k_goto f15_59 ?_
      rw [foL_s, show dyC (soB I0 t) n i z = mtC (soB I0 t) n (cl (z.1 (56 + 3 * i + 1))) (cl (z.1 (56 + 3 * i + 2))) z from if_pos hT]
      exact ih (i + 1) _ I1 J1 _ (by omega) hz1
    · refine k_iload f15_9 rfl ?_
      refine k_aload f15_11 rfl ?_
      refine k_gI (w := nI m) f15_13 hst.2.2.1.2.1 rfl em ?_
      refine k_ic_ge f15_16 (fun h_ => absurd h_ (nI_ge hin (by omega))) (fun _ => ?_)
      refine k_aload f15_19 rfl ?_
      refine k_getr (q := pl + 4) f15_21 hst.2.2.1.2.1 rfl (hst.2.2.1.2.2.1 3 (by omega)) ?_
      refine k_iload f15_24 rfl ?_
      refine k_ia (k := i) (w := z.1 (56 + 3 * i)) f15_26 (hst.2.2.1.2.2.2.2 0 (by omega)) rfl (by omega) (by decide) mt.1 ?_
      refine k_aload f15_27 rfl ?_
      refine k_gI (w := z.1 3) f15_28 hst.1.1 rfl hst.2.2.2.2.1 ?_
      refine k_ic_ne f15_31 (fun _ => ?_) (fun h_ => absurd (hT) h_)
      refine k_iinc (w := nI (i + 1)) (L' := [.ref 42, .ref st, .ref r, .int (nI a), .int (nI b), .ref pl, .int (nI (i + 1)), u]) f15_56 rfl (nI_1 i) rfl rfl ?_
      refine k_goto f15_59 ?_
      rw [foL_s, show dyC (soB I0 t) n i z = z from if_neg hT]
      exact ih (i + 1) z I J _ (by omega) hz
def dC (so : (Nat → Int64) → Nat → Bool) (n m a b : Nat) (z : (Nat → Int32) × Int32) : (Nat → Int32) × Int32 := dnC (capC (z.1 3)) (foL (hmC so n) 0 n (drC so n a b (foL (dyC so n) 0 m z)))
theorem q_passDay {x : Nat × (Nat → Int32)} {d : Nat} {R : Nat → Nat → Option Nat} {G : zG} {I0 : Nat → Nat → Int32} {s0 : Nat → Int32} {I : Nat → Nat → Int32} {J : Nat → Nat → Int64} {z : (Nat → Int32) × Int32} {st pl t r n a b : Nat} (hR : Rs R) (hS : Sh G) (hst2 : st = 17 ∨ st = 27) (hru : RuR I0 R G t r) (hn : s0 1 = nI n) (hn8 : n ≤ 8) (hm : cl (s0 2) ≤ 25) (ha31 : a < 2 ^ 31) (hb31 : b < 2 ^ 31) (hab : a ≠ b → a < cl (s0 0) ∧ b < cl (s0 0)) {m : Nat} (hmw : MW s0 m) (hm24 : m ≤ 24) (hz : CZ I0 R G st pl s0 z I) : zOk x (d + 5) 15 0 [.ref 42, .ref st, .ref r, .int (nI a), .int (nI b), zU, zU, zU] [] (I, J, R, G) (fun v mm => v = none ∧ ∃ I' J', mm = (I', J', R, G) ∧ CZ I0 R G st pl (fu s0 3 (capC (s0 3))) (dC (soB I0 t) n m a b z) I') := by
  have hst : StR I R G st pl z.1 := hz.1
  have e1 : z.1 1 = nI n := (hz.2.2.2.1 1 (by omega)).trans hn
  have en : I pl 2 = nI n := hst.2.2.2.1.2.2.1.trans e1
  have c1 : cl (z.1 1) = n := by rw [e1, cl_nI (by omega)]
  have hkr : Kr I0 I := hz.kr hst2
  have hz4 : zo G r 4 := by obtain ⟨_, _, _, _, _, h, _⟩ := hru; exact h.2.1
  refine k_aload f15_0 rfl ?_
  refine k_getr (q := pl) f15_1 hst.1.1 rfl hst.2.1 ?_
  refine k_astore (L' := [.ref 42, .ref st, .ref r, .int (nI a), .int (nI b), .ref pl, zU, zU]) f15_4 rfl rfl ?_
  refine k_iconst (v := 0) f15_6 rfl ?_
  refine k_istore (L' := [.ref 42, .ref st, .ref r, .int (nI a), .int (nI b), .ref pl, .int (0), zU]) f15_7 rfl rfl ?_
  rw [show dC (soB I0 t) n m a b z = dnC (capC (s0 3)) (foL (hmC (soB I0 t) n) 0 n (drC (soB I0 t) n a b (foL (dyC (soB I0 t) n) 0 m z))) from by unfold dC; rw [hz.2.2.2.1 3 (by omega)]]
  exact lp_day1 hR hS hst2 hru hn hn8 hm ha31 hb31 hab hmw hm24 m 0 z I J _ (by omega) hz
