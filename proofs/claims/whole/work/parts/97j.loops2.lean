/-! LOOPS of the reference, and how many bits there are. -/
theorem s_isVoidM {x : Nat × (Nat → Int32)} {d : Nat} {I : Nat → Nat → Int32} {J : Nat → Nat → Int64} {R : Nat → Nat → Option Nat} {G : zG} {c : Nat} {s : Nat → Int32} (hR : Rs R) (hS : Sh G) (hs : I 62 = s) (hc8 : c < 8) : zRn x (d + 1) 157 [.ref 51, .int (nI c)] (I, J, R, G) (some (.int (bI (¬ s 3 - s (8 + 6 * c + 2) ≤ s 7)))) (I, J, R, G) := by
  show zOk x (d + 1) 157 0 [.ref 51, .int (nI c)] [] _ _
  refine k_aload f157_0 rfl ?_
  refine k_getr (q := 62) f157_1 hS.o51 rfl hR.r51_25 ?_
  refine k_iconst (v := 3) f157_4 rfl ?_
  refine k_ia (k := 3) (w := s 3) f157_5 hS.a62 rfl (by decide) (by decide) (congrFun hs _) ?_
  refine k_aload f157_6 rfl ?_
  refine k_iload f157_7 rfl ?_
  refine k_iconst (v := 2) f157_8 rfl ?_
  refine e_v (as := [.int (2), .int (nI c)]) (rest := [.int (s 3)]) f157_9 hS.o51 rfl rfl rfl (s_coinOf (c := c) (k := 2) (v := s (8 + 6 * c + 2)) hR hS (by omega) (congrFun hs _)) ?_
  refine k_isub f157_12 ?_
  refine k_aload f157_13 rfl ?_
  refine k_getr (q := 62) f157_14 hS.o51 rfl hR.r51_25 ?_
  refine k_iconst (v := 7) f157_17 rfl ?_
  refine k_ia (k := 7) (w := s 7) f157_19 hS.a62 rfl (by decide) (by decide) (congrFun hs _) ?_
  refine k_ic_le f157_20 (fun g0 => ?_) (fun g0 => ?_)
  · refine k_iconst (v := 0) f157_27 rfl ?_
    exact k_iret f157_28 (by decide) ⟨bI_f fun h => h g0, rfl⟩
  · refine k_iconst (v := 1) f157_23 rfl ?_
    refine k_goto f157_24 ?_
    exact k_iret f157_28 (by decide) ⟨bI_t g0, rfl⟩
theorem lp_voidOnes {x : Nat × (Nat → Int32)} {d : Nat} {I : Nat → Nat → Int32} {J : Nat → Nat → Int64} {R : Nat → Nat → Option Nat} {G : zG} {n : Nat} {s : Nat → Int32} (hR : Rs R) (hS : Sh G) (hs : I 62 = s) (hn : s 1 = nI n) (hn8 : n ≤ 8) : ∀ (f i : Nat), i + f = n → zOk x (d + 2) 158 4 [.ref 51, .int (acc (fV s) i), .int (nI i)] [] (I, J, R, G) (fun w m => w = some (.int (acc (fV s) n)) ∧ m = (I, J, R, G)) := by
  intro f
  induction f with
  | zero =>
    intro i hi
    refine k_iload f158_4 rfl ?_
    refine k_aload f158_5 rfl ?_
    refine k_getr (q := 62) f158_6 hS.o51 rfl hR.r51_25 ?_
    refine k_iconst (v := 1) f158_9 rfl ?_
    refine k_ia (k := 1) (w := nI n) f158_10 hS.a62 rfl (by decide) (by decide) ((congrFun hs _).trans hn) ?_
    refine k_ic_ge f158_11 (fun _ => ?_) (fun h_ => absurd (nI_le (by omega) (by omega)) h_)
    refine k_iload f158_38 rfl ?_
    exact k_iret f158_39 rfl ⟨by rw [show n = i by omega], rfl⟩
  | succ f ih =>
    intro i hi
    have hin : i < n := by omega
    refine k_iload f158_4 rfl ?_
    refine k_aload f158_5 rfl ?_
    refine k_getr (q := 62) f158_6 hS.o51 rfl hR.r51_25 ?_
    refine k_iconst (v := 1) f158_9 rfl ?_
    refine k_ia (k := 1) (w := nI n) f158_10 hS.a62 rfl (by decide) (by decide) ((congrFun hs _).trans hn) ?_
    refine k_ic_ge f158_11 (fun h_ => absurd h_ (nI_ge hin (by omega))) (fun _ => ?_)
    refine k_iload f158_14 rfl ?_
    refine k_aload f158_15 rfl ?_
    refine k_iload f158_16 rfl ?_
    refine e_v (as := [.int (nI i)]) (rest := [.int (acc (fV s) i)]) f158_17 hS.o51 rfl rfl rfl (s_isVoidM hR hS hs (by omega)) ?_
    refine k_beq f158_20 (fun g0 => ?_) (fun g0 => ?_)
    · refine k_iconst (v := 0) f158_29 rfl ?_
      refine k_ior f158_30 ?_
      refine k_istore (L' := [.ref 51, .int ((acc (fV s) i) ||| (0)), .int (nI i)]) f158_31 rfl rfl ?_
      refine k_iinc (w := nI (i + 1)) (L' := [.ref 51, .int ((acc (fV s) i) ||| (0)), .int (nI (i + 1))]) f158_32 rfl (nI_1 i) rfl rfl ?_
      refine k_goto f158_35 ?_
      have e : (acc (fV s) i) ||| (0) = acc (fV s) (i + 1) := by
        rw [or_0, acc_s, fV, if_pos (Classical.not_not.mp g0)]
      rw [e]
      exact ih (i + 1) (by omega)
    · refine k_iconst (v := 1) f158_23 rfl ?_
      refine k_iload f158_24 rfl ?_
      refine k_ishl f158_25 ?_
      refine k_goto f158_26 ?_
      refine k_ior f158_30 ?_
      refine k_istore (L' := [.ref 51, .int ((acc (fV s) i) ||| ((1) <<< ((nI i) &&& 31))), .int (nI i)]) f158_31 rfl rfl ?_
      refine k_iinc (w := nI (i + 1)) (L' := [.ref 51, .int ((acc (fV s) i) ||| ((1) <<< ((nI i) &&& 31))), .int (nI (i + 1))]) f158_32 rfl (nI_1 i) rfl rfl ?_
      refine k_goto f158_35 ?_
      have e : (acc (fV s) i) ||| ((1) <<< ((nI i) &&& 31)) = acc (fV s) (i + 1) := by
        rw [acc_s, fV, if_neg g0]
      rw [e]
      exact ih (i + 1) (by omega)
theorem s_voidOnes {x : Nat × (Nat → Int32)} {d : Nat} {I : Nat → Nat → Int32} {J : Nat → Nat → Int64} {R : Nat → Nat → Option Nat} {G : zG} {n : Nat} {s : Nat → Int32} (hR : Rs R) (hS : Sh G) (hs : I 62 = s) (hn : s 1 = nI n) (hn8 : n ≤ 8) : zRn x (d + 2) 158 [.ref 51] (I, J, R, G) (some (.int (acc (fV s) n))) (I, J, R, G) := by
  show zOk x (d + 2) 158 0 [.ref 51, zU, zU] [] _ _
  refine k_iconst (v := 0) f158_0 rfl ?_
  refine k_istore (L' := [.ref 51, .int (0), zU]) f158_1 rfl rfl ?_
  refine k_iconst (v := 0) f158_2 rfl ?_
  refine k_istore (L' := [.ref 51, .int (0), .int (0)]) f158_3 rfl rfl ?_
  exact lp_voidOnes hR hS hs hn hn8 n 0 (by omega)
theorem lp_purseOf {x : Nat × (Nat → Int32)} {d : Nat} {I : Nat → Nat → Int32} {J : Nat → Nat → Int64} {R : Nat → Nat → Option Nat} {G : zG} {p : Int32} {n : Nat} {s : Nat → Int32} (hR : Rs R) (hS : Sh G) (hs : I 62 = s) (hn : s 1 = nI n) (hn8 : n ≤ 8) : ∀ (f i : Nat), i + f = n → zOk x (d + 1) 159 4 [.ref 51, .int (p), .int (acc (fH s p) i), .int (nI i)] [] (I, J, R, G) (fun w m => w = some (.int (acc (fH s p) n)) ∧ m = (I, J, R, G)) := by
  intro f
  induction f with
  | zero =>
    intro i hi
    refine k_iload f159_4 rfl ?_
    refine k_aload f159_5 rfl ?_
    refine k_getr (q := 62) f159_6 hS.o51 rfl hR.r51_25 ?_
    refine k_iconst (v := 1) f159_9 rfl ?_
    refine k_ia (k := 1) (w := nI n) f159_10 hS.a62 rfl (by decide) (by decide) ((congrFun hs _).trans hn) ?_
    refine k_ic_ge f159_11 (fun _ => ?_) (fun h_ => absurd (nI_le (by omega) (by omega)) h_)
    refine k_iload f159_40 rfl ?_
    exact k_iret f159_41 rfl ⟨by rw [show n = i by omega], rfl⟩
  | succ f ih =>
    intro i hi
    have hin : i < n := by omega
    refine k_iload f159_4 rfl ?_
    refine k_aload f159_5 rfl ?_
    refine k_getr (q := 62) f159_6 hS.o51 rfl hR.r51_25 ?_
    refine k_iconst (v := 1) f159_9 rfl ?_
    refine k_ia (k := 1) (w := nI n) f159_10 hS.a62 rfl (by decide) (by decide) ((congrFun hs _).trans hn) ?_
    refine k_ic_ge f159_11 (fun h_ => absurd h_ (nI_ge hin (by omega))) (fun _ => ?_)
    refine k_iload f159_14 rfl ?_
    refine k_aload f159_15 rfl ?_
    refine k_iload f159_16 rfl ?_
    refine k_iconst (v := 1) f159_17 rfl ?_
    refine e_v (as := [.int (1), .int (nI i)]) (rest := [.int (acc (fH s p) i)]) f159_18 hS.o51 rfl rfl rfl (s_coinOf (c := i) (k := 1) (v := s (8 + 6 * i + 1)) hR hS (by omega) (congrFun hs _)) ?_
    refine k_iload f159_21 rfl ?_
    refine k_ic_ne f159_22 (fun g0 => ?_) (fun g0 => ?_)
    · refine k_iconst (v := 0) f159_31 rfl ?_
      refine k_ior f159_32 ?_
      refine k_istore (L' := [.ref 51, .int (p), .int ((acc (fH s p) i) ||| (0)), .int (nI i)]) f159_33 rfl rfl ?_
      refine k_iinc (w := nI (i + 1)) (L' := [.ref 51, .int (p), .int ((acc (fH s p) i) ||| (0)), .int (nI (i + 1))]) f159_34 rfl (nI_1 i) rfl rfl ?_
      refine k_goto f159_37 ?_
      have e : (acc (fH s p) i) ||| (0) = acc (fH s p) (i + 1) := by
        rw [or_0, acc_s, fH, if_neg g0]
      rw [e]
      exact ih (i + 1) (by omega)
    · refine k_iconst (v := 1) f159_25 rfl ?_
      refine k_iload f159_26 rfl ?_
      refine k_ishl f159_27 ?_
      refine k_goto f159_28 ?_
      refine k_ior f159_32 ?_
      refine k_istore (L' := [.ref 51, .int (p), .int ((acc (fH s p) i) ||| ((1) <<< ((nI i) &&& 31))), .int (nI i)]) f159_33 rfl rfl ?_
      refine k_iinc (w := nI (i + 1)) (L' := [.ref 51, .int (p), .int ((acc (fH s p) i) ||| ((1) <<< ((nI i) &&& 31))), .int (nI (i + 1))]) f159_34 rfl (nI_1 i) rfl rfl ?_
      refine k_goto f159_37 ?_
      have e : (acc (fH s p) i) ||| ((1) <<< ((nI i) &&& 31)) = acc (fH s p) (i + 1) := by
        rw [acc_s, fH, if_pos (Classical.not_not.mp g0)]
      rw [e]
      exact ih (i + 1) (by omega)
theorem s_purseOf {x : Nat × (Nat → Int32)} {d : Nat} {I : Nat → Nat → Int32} {J : Nat → Nat → Int64} {R : Nat → Nat → Option Nat} {G : zG} {p : Int32} {n : Nat} {s : Nat → Int32} (hR : Rs R) (hS : Sh G) (hs : I 62 = s) (hn : s 1 = nI n) (hn8 : n ≤ 8) : zRn x (d + 1) 159 [.ref 51, .int (p)] (I, J, R, G) (some (.int (acc (fH s p) n))) (I, J, R, G) := by
  show zOk x (d + 1) 159 0 [.ref 51, .int (p), zU, zU] [] _ _
  refine k_iconst (v := 0) f159_0 rfl ?_
  refine k_istore (L' := [.ref 51, .int (p), .int (0), zU]) f159_1 rfl rfl ?_
  refine k_iconst (v := 0) f159_2 rfl ?_
  refine k_istore (L' := [.ref 51, .int (p), .int (0), .int (0)]) f159_3 rfl rfl ?_
  exact lp_purseOf hR hS hs hn hn8 n 0 (by omega)
theorem lp_metBy {x : Nat × (Nat → Int32)} {d : Nat} {I : Nat → Nat → Int32} {J : Nat → Nat → Int64} {R : Nat → Nat → Option Nat} {G : zG} {p : Int32} {n : Nat} {s : Nat → Int32} (hR : Rs R) (hS : Sh G) (hs : I 62 = s) (hn : s 2 = nI n) (hn8 : n ≤ 25) (hne : ∀ m, m < n → s (56 + 3 * m + 1) ≠ s (56 + 3 * m + 2)) : ∀ (f i : Nat), i + f = n → zOk x (d + 1) 160 4 [.ref 51, .int (p), .int (acc (fM s p) i), .int (nI i)] [] (I, J, R, G) (fun w m => w = some (.int (acc (fM s p) n)) ∧ m = (I, J, R, G)) := by
  intro f
  induction f with
  | zero =>
    intro i hi
    refine k_iload f160_4 rfl ?_
    refine k_aload f160_5 rfl ?_
    refine k_getr (q := 62) f160_6 hS.o51 rfl hR.r51_25 ?_
    refine k_iconst (v := 2) f160_9 rfl ?_
    refine k_ia (k := 2) (w := nI n) f160_10 hS.a62 rfl (by decide) (by decide) ((congrFun hs _).trans hn) ?_
    refine k_ic_ge f160_11 (fun _ => ?_) (fun h_ => absurd (nI_le (by omega) (by omega)) h_)
    refine k_iload f160_80 rfl ?_
    exact k_iret f160_81 rfl ⟨by rw [show n = i by omega], rfl⟩
  | succ f ih =>
    intro i hi
    have hin : i < n := by omega
    refine k_iload f160_4 rfl ?_
    refine k_aload f160_5 rfl ?_
    refine k_getr (q := 62) f160_6 hS.o51 rfl hR.r51_25 ?_
    refine k_iconst (v := 2) f160_9 rfl ?_
    refine k_ia (k := 2) (w := nI n) f160_10 hS.a62 rfl (by decide) (by decide) ((congrFun hs _).trans hn) ?_
    refine k_ic_ge f160_11 (fun h_ => absurd h_ (nI_ge hin (by omega))) (fun _ => ?_)
    refine k_aload f160_14 rfl ?_
    refine k_iload f160_15 rfl ?_
    refine k_iconst (v := 0) f160_16 rfl ?_
    refine e_v (as := [.int (0), .int (nI i)]) (rest := []) f160_17 hS.o51 rfl rfl rfl (s_meetOf (c := i) (k := 0) (v := s (56 + 3 * i)) hR hS (by omega) (congrFun hs _)) ?_
    refine k_aload f160_20 rfl ?_
    refine k_getr (q := 62) f160_21 hS.o51 rfl hR.r51_25 ?_
    refine k_iconst (v := 3) f160_24 rfl ?_
    refine k_ia (k := 3) (w := s 3) f160_25 hS.a62 rfl (by decide) (by decide) (congrFun hs _) ?_
    refine k_ic_eq f160_26 (fun g0 => ?_) (fun g0 => ?_)
    · refine k_aload f160_32 rfl ?_
      refine k_iload f160_33 rfl ?_
      refine k_iconst (v := 1) f160_34 rfl ?_
      refine e_v (as := [.int (1), .int (nI i)]) (rest := []) f160_35 hS.o51 rfl rfl rfl (s_meetOf (c := i) (k := 1) (v := s (56 + 3 * i + 1)) hR hS (by omega) (congrFun hs _)) ?_
      refine k_iload f160_38 rfl ?_
      refine k_ic_ne f160_39 (fun g1 => ?_) (fun g1 => ?_)
      · refine k_aload f160_53 rfl ?_
        refine k_iload f160_54 rfl ?_
        refine k_iconst (v := 2) f160_55 rfl ?_
        refine e_v (as := [.int (2), .int (nI i)]) (rest := []) f160_56 hS.o51 rfl rfl rfl (s_meetOf (c := i) (k := 2) (v := s (56 + 3 * i + 2)) hR hS (by omega) (congrFun hs _)) ?_
        refine k_iload f160_59 rfl ?_
        refine k_ic_ne f160_60 (fun g2 => ?_) (fun g2 => ?_)
        · refine k_iinc (w := nI (i + 1)) (L' := [.ref 51, .int (p), .int (acc (fM s p) i), .int (nI (i + 1))]) f160_74 rfl (nI_1 i) rfl rfl ?_
          refine k_goto f160_77 ?_
          have e : acc (fM s p) i = acc (fM s p) (i + 1) := by
            rw [acc_s, fM, if_pos g0, if_neg g1, if_neg g2]
          rw [e]
          exact ih (i + 1) (by omega)
        · refine k_iload f160_63 rfl ?_
          refine k_iconst (v := 1) f160_64 rfl ?_
          refine k_aload f160_65 rfl ?_
          refine k_iload f160_66 rfl ?_
          refine k_iconst (v := 1) f160_67 rfl ?_
          refine e_v (as := [.int (1), .int (nI i)]) (rest := [.int (1), .int (acc (fM s p) i)]) f160_68 hS.o51 rfl rfl rfl (s_meetOf (c := i) (k := 1) (v := s (56 + 3 * i + 1)) hR hS (by omega) (congrFun hs _)) ?_
          refine k_ishl f160_71 ?_
          refine k_ior f160_72 ?_
          refine k_istore (L' := [.ref 51, .int (p), .int ((acc (fM s p) i) ||| ((1) <<< ((s (56 + 3 * i + 1)) &&& 31))), .int (nI i)]) f160_73 rfl rfl ?_
          refine k_iinc (w := nI (i + 1)) (L' := [.ref 51, .int (p), .int ((acc (fM s p) i) ||| ((1) <<< ((s (56 + 3 * i + 1)) &&& 31))), .int (nI (i + 1))]) f160_74 rfl (nI_1 i) rfl rfl ?_
          refine k_goto f160_77 ?_
          have e : (acc (fM s p) i) ||| ((1) <<< ((s (56 + 3 * i + 1)) &&& 31)) = acc (fM s p) (i + 1) := by
            rw [acc_s, fM, if_pos g0, if_neg g1, if_pos (Classical.not_not.mp g2)]
          rw [e]
          exact ih (i + 1) (by omega)
      · refine k_iload f160_42 rfl ?_
        refine k_iconst (v := 1) f160_43 rfl ?_
        refine k_aload f160_44 rfl ?_
        refine k_iload f160_45 rfl ?_
        refine k_iconst (v := 2) f160_46 rfl ?_
        refine e_v (as := [.int (2), .int (nI i)]) (rest := [.int (1), .int (acc (fM s p) i)]) f160_47 hS.o51 rfl rfl rfl (s_meetOf (c := i) (k := 2) (v := s (56 + 3 * i + 2)) hR hS (by omega) (congrFun hs _)) ?_
        refine k_ishl f160_50 ?_
        refine k_ior f160_51 ?_
        refine k_istore (L' := [.ref 51, .int (p), .int ((acc (fM s p) i) ||| ((1) <<< ((s (56 + 3 * i + 2)) &&& 31))), .int (nI i)]) f160_52 rfl rfl ?_
        refine k_aload f160_53 rfl ?_
        refine k_iload f160_54 rfl ?_
        refine k_iconst (v := 2) f160_55 rfl ?_
        refine e_v (as := [.int (2), .int (nI i)]) (rest := []) f160_56 hS.o51 rfl rfl rfl (s_meetOf (c := i) (k := 2) (v := s (56 + 3 * i + 2)) hR hS (by omega) (congrFun hs _)) ?_
        refine k_iload f160_59 rfl ?_
        refine k_ic_ne f160_60 (fun g2 => ?_) (fun g2 => ?_)
        · refine k_iinc (w := nI (i + 1)) (L' := [.ref 51, .int (p), .int ((acc (fM s p) i) ||| ((1) <<< ((s (56 + 3 * i + 2)) &&& 31))), .int (nI (i + 1))]) f160_74 rfl (nI_1 i) rfl rfl ?_
          refine k_goto f160_77 ?_
          have e : (acc (fM s p) i) ||| ((1) <<< ((s (56 + 3 * i + 2)) &&& 31)) = acc (fM s p) (i + 1) := by
            rw [acc_s, fM, if_pos g0, if_pos (Classical.not_not.mp g1)]
          rw [e]
          exact ih (i + 1) (by omega)
        · refine k_iload f160_63 rfl ?_
          refine k_iconst (v := 1) f160_64 rfl ?_
          refine k_aload f160_65 rfl ?_
          refine k_iload f160_66 rfl ?_
          refine k_iconst (v := 1) f160_67 rfl ?_
          refine e_v (as := [.int (1), .int (nI i)]) (rest := [.int (1), .int ((acc (fM s p) i) ||| ((1) <<< ((s (56 + 3 * i + 2)) &&& 31)))]) f160_68 hS.o51 rfl rfl rfl (s_meetOf (c := i) (k := 1) (v := s (56 + 3 * i + 1)) hR hS (by omega) (congrFun hs _)) ?_
          refine k_ishl f160_71 ?_
          refine k_ior f160_72 ?_
          refine k_istore (L' := [.ref 51, .int (p), .int (((acc (fM s p) i) ||| ((1) <<< ((s (56 + 3 * i + 2)) &&& 31))) ||| ((1) <<< ((s (56 + 3 * i + 1)) &&& 31))), .int (nI i)]) f160_73 rfl rfl ?_
          refine k_iinc (w := nI (i + 1)) (L' := [.ref 51, .int (p), .int (((acc (fM s p) i) ||| ((1) <<< ((s (56 + 3 * i + 2)) &&& 31))) ||| ((1) <<< ((s (56 + 3 * i + 1)) &&& 31))), .int (nI (i + 1))]) f160_74 rfl (nI_1 i) rfl rfl ?_
          refine k_goto f160_77 ?_
          exact absurd ((Classical.not_not.mp g1).trans (Classical.not_not.mp g2).symm) (hne i hin)
    · refine k_goto f160_29 ?_
      refine k_iinc (w := nI (i + 1)) (L' := [.ref 51, .int (p), .int (acc (fM s p) i), .int (nI (i + 1))]) f160_74 rfl (nI_1 i) rfl rfl ?_
      refine k_goto f160_77 ?_
      have e : acc (fM s p) i = acc (fM s p) (i + 1) := by
        rw [acc_s, fM, if_neg g0]
      rw [e]
      exact ih (i + 1) (by omega)
theorem s_metBy {x : Nat × (Nat → Int32)} {d : Nat} {I : Nat → Nat → Int32} {J : Nat → Nat → Int64} {R : Nat → Nat → Option Nat} {G : zG} {p : Int32} {n : Nat} {s : Nat → Int32} (hR : Rs R) (hS : Sh G) (hs : I 62 = s) (hn : s 2 = nI n) (hn8 : n ≤ 25) (hne : ∀ m, m < n → s (56 + 3 * m + 1) ≠ s (56 + 3 * m + 2)) : zRn x (d + 1) 160 [.ref 51, .int (p)] (I, J, R, G) (some (.int (acc (fM s p) n))) (I, J, R, G) := by
  show zOk x (d + 1) 160 0 [.ref 51, .int (p), zU, zU] [] _ _
  refine k_iconst (v := 0) f160_0 rfl ?_
  refine k_istore (L' := [.ref 51, .int (p), .int (0), zU]) f160_1 rfl rfl ?_
  refine k_iconst (v := 0) f160_2 rfl ?_
  refine k_istore (L' := [.ref 51, .int (p), .int (0), .int (0)]) f160_3 rfl rfl ?_
  exact lp_metBy hR hS hs hn hn8 hne n 0 (by omega)
def popF : Nat → Nat → Nat
  | 0, _ => 0
  | f + 1, k => k % 2 + popF f (k / 2)
def popc (k : Nat) : Nat := popF 10 k
theorem popc_st : ∀ k, k < 1024 → 0 < k → k &&& (k - 1) < 1024 ∧ popc (k &&& (k - 1)) + 1 = popc k := by decide +kernel
theorem popc_le : ∀ k, k < 1024 → popc k ≤ 10 := by decide +kernel
theorem popc_0 : ∀ k, k < 1024 → popc k = 0 → k = 0 := by decide +kernel
theorem nI_and (a b : Nat) : nI a &&& nI b = nI (a &&& b) := by
  apply Int32.toBitVec_inj.mp
  rw [Int32.toBitVec_and]
  simp only [nI, Int32.toBitVec_ofNat', BitVec.ofNat_and]
theorem nI_or (a b : Nat) : nI a ||| nI b = nI (a ||| b) := by
  apply Int32.toBitVec_inj.mp
  rw [Int32.toBitVec_or]
  simp only [nI, Int32.toBitVec_ofNat', BitVec.ofNat_or]
theorem and_pred {k : Nat} (h0 : 0 < k) : (nI k) &&& ((nI k) - (1)) = nI (k &&& (k - 1)) := by
  rw [show (1 : Int32) = nI 1 from rfl, pk_sub h0, nI_and]
theorem lp_bits {x : Nat × (Nat → Int32)} {d : Nat} {I : Nat → Nat → Int32} {J : Nat → Nat → Int64} {R : Nat → Nat → Option Nat} {G : zG} {v : Int32} : ∀ (f k a : Nat), k < 1024 → popc k = f → zOk x d 112 4 [.int v, .int (nI a), .int (nI k)] [] (I, J, R, G) (fun w m => w = some (.int (nI (a + f))) ∧ m = (I, J, R, G)) := by
  intro f
  induction f with
  | zero =>
    intro k a hk hp
    have h0 := popc_0 k hk hp
    subst h0
    refine k_iload f112_4 rfl ?_
    refine k_if_eq f112_5 (fun _ => ?_) (fun h_ => absurd (rfl) h_)
    refine k_iload f112_20 rfl ?_
    exact k_iret f112_21 rfl ⟨rfl, rfl⟩
  | succ f ih =>
    intro k a hk hp
    have h0 : 0 < k := Nat.pos_of_ne_zero fun h => by rw [h] at hp; exact absurd hp (by simp [popc, popF])
    have h1 := popc_st k hk h0
    refine k_iload f112_4 rfl ?_
    refine k_if_eq f112_5 (fun h_ => absurd h_ (nI_ne0 h0 (by omega))) (fun _ => ?_)
    refine k_iinc (w := nI (a + 1)) (L' := [.int (v), .int (nI (a + 1)), .int (nI k)]) f112_8 rfl (nI_1 a) rfl rfl ?_
    refine k_iload f112_11 rfl ?_
    refine k_iload f112_12 rfl ?_
    refine k_iconst (v := 1) f112_13 rfl ?_
    refine k_isub f112_14 ?_
    refine k_iand f112_15 ?_
    refine k_istore (L' := [.int (v), .int (nI (a + 1)), .int ((nI k) &&& ((nI k) - (1)))]) f112_16 rfl rfl ?_
    refine k_goto f112_17 ?_
    rw [and_pred h0, show a + (f + 1) = a + 1 + f by omega]
    exact ih _ _ h1.1 (by omega)
theorem s_bits {x : Nat × (Nat → Int32)} {d : Nat} {I : Nat → Nat → Int32} {J : Nat → Nat → Int64} {R : Nat → Nat → Option Nat} {G : zG} {k : Nat} (hk : k < 1024) : zRn x d 112 [.int (nI k)] (I, J, R, G) (some (.int (nI (popc k)))) (I, J, R, G) := by
  show zOk x d 112 0 [.int (nI k), zU, zU] [] _ _
  refine k_iconst (v := 0) f112_0 rfl ?_
  refine k_istore (L' := [.int (nI k), .int (0), zU]) f112_1 rfl rfl ?_
  refine k_iload f112_2 rfl ?_
  refine k_istore (L' := [.int (nI k), .int (0), .int (nI k)]) f112_3 rfl rfl ?_
  have h := lp_bits (x := x) (d := d) (I := I) (J := J) (R := R) (G := G) (v := nI k) _ k 0 hk rfl
  rw [Nat.zero_add] at h
  exact h
def bc1 (i : Int32) : Int32 := (i) - (((((i).toUInt32 >>> ((1 : Int32).toUInt32 &&& Int32.toUInt32 31)).toInt32)) &&& (1431655765))
def bc2 (i : Int32) : Int32 := ((i) &&& (858993459)) + ((((i).toUInt32 >>> ((2 : Int32).toUInt32 &&& Int32.toUInt32 31)).toInt32) &&& (858993459))
def bc3 (i : Int32) : Int32 := ((i) + (((i).toUInt32 >>> ((4 : Int32).toUInt32 &&& Int32.toUInt32 31)).toInt32)) &&& (252645135)
def bc4 (i : Int32) : Int32 := (i) + (((i).toUInt32 >>> ((8 : Int32).toUInt32 &&& Int32.toUInt32 31)).toInt32)
def bc5 (i : Int32) : Int32 := (i) + (((i).toUInt32 >>> ((16 : Int32).toUInt32 &&& Int32.toUInt32 31)).toInt32)
def bcB (k : Nat) : Bool := decide (bc5 (bc4 (bc3 (bc2 (bc1 (nI k))))) &&& 63 = nI (popc k))
theorem bc_all : (List.range 1024).all bcB = true := by decide +kernel
theorem bc_eq {k : Nat} (hk : k < 1024) : bc5 (bc4 (bc3 (bc2 (bc1 (nI k))))) &&& 63 = nI (popc k) := of_decide_eq_true (List.all_eq_true.mp bc_all k (List.mem_range.mpr hk))
theorem s_bitCount {x : Nat × (Nat → Int32)} {d : Nat} {I : Nat → Nat → Int32} {J : Nat → Nat → Int64} {R : Nat → Nat → Option Nat} {G : zG} {k : Nat} (hk : k < 1024) : zRn x d 205 [.int (nI k)] (I, J, R, G) (some (.int (nI (popc k)))) (I, J, R, G) := by
  show zOk x d 205 0 [.int (nI k)] [] _ _
  refine k_iload f205_0 rfl ?_
  refine k_iload f205_1 rfl ?_
  refine k_iconst (v := 1) f205_2 rfl ?_
  refine k_iushr f205_3 ?_
  refine k_iconst (v := 1431655765) f205_4 rfl ?_
  refine k_iand f205_7 ?_
  refine k_isub f205_8 ?_
  refine k_istore (L' := [.int (bc1 (nI k))]) f205_9 rfl rfl ?_
  refine k_iload f205_10 rfl ?_
  refine k_iconst (v := 858993459) f205_11 rfl ?_
  refine k_iand f205_14 ?_
  refine k_iload f205_15 rfl ?_
  refine k_iconst (v := 2) f205_16 rfl ?_
  refine k_iushr f205_17 ?_
  refine k_iconst (v := 858993459) f205_18 rfl ?_
  refine k_iand f205_21 ?_
  refine k_iadd f205_22 ?_
  refine k_istore (L' := [.int (bc2 (bc1 (nI k)))]) f205_23 rfl rfl ?_
  refine k_iload f205_24 rfl ?_
  refine k_iload f205_25 rfl ?_
  refine k_iconst (v := 4) f205_26 rfl ?_
  refine k_iushr f205_27 ?_
  refine k_iadd f205_28 ?_
  refine k_iconst (v := 252645135) f205_29 rfl ?_
  refine k_iand f205_32 ?_
  refine k_istore (L' := [.int (bc3 (bc2 (bc1 (nI k))))]) f205_33 rfl rfl ?_
  refine k_iload f205_34 rfl ?_
  refine k_iload f205_35 rfl ?_
  refine k_iconst (v := 8) f205_36 rfl ?_
  refine k_iushr f205_38 ?_
  refine k_iadd f205_39 ?_
  refine k_istore (L' := [.int (bc4 (bc3 (bc2 (bc1 (nI k)))))]) f205_40 rfl rfl ?_
  refine k_iload f205_41 rfl ?_
  refine k_iload f205_42 rfl ?_
  refine k_iconst (v := 16) f205_43 rfl ?_
  refine k_iushr f205_45 ?_
  refine k_iadd f205_46 ?_
  refine k_istore (L' := [.int (bc5 (bc4 (bc3 (bc2 (bc1 (nI k))))))]) f205_47 rfl rfl ?_
  refine k_iload f205_48 rfl ?_
  refine k_iconst (v := 63) f205_49 rfl ?_
  refine k_iand f205_51 ?_
  exact k_iret f205_52 rfl ⟨congrArg (fun t => some (Value.int t)) (bc_eq hk), rfl⟩
