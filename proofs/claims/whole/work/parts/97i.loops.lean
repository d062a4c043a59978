/-! LOOPS over COINS and MEETINGS. -/
def acc (f : Nat → Int32 → Int32) : Nat → Int32
  | 0 => 0
  | n + 1 => f n (acc f n)
theorem acc_s (f : Nat → Int32 → Int32) (n : Nat) : acc f (n + 1) = f n (acc f n) := rfl
def fV (s : Nat → Int32) (c : Nat) (a : Int32) : Int32 := if s 3 - s (8 + 6 * c + 2) ≤ s 7 then a else a ||| ((1 : Int32) <<< (nI c &&& 31))
def fH (s : Nat → Int32) (p : Int32) (c : Nat) (a : Int32) : Int32 := if s (8 + 6 * c + 1) = p then a ||| ((1 : Int32) <<< (nI c &&& 31)) else a
def fC (s : Nat → Int32) (p : Int32) (c : Nat) (a : Int32) : Int32 := if s (8 + 6 * c + 1) = p then a + 1 else a
def fG (s : Nat → Int32) (p : Int32) (c : Nat) (a : Int32) : Int32 := if s (8 + 6 * c + 1) = p then (if s 3 - s (8 + 6 * c + 2) ≤ s 7 then a + s (8 + 6 * c) else a) else a
def fT (s : Nat → Int32) (c : Nat) (a : Int32) : Int32 := if s (131 + c) = -1 then a else a + 1
def fM (s : Nat → Int32) (p : Int32) (m : Nat) (a : Int32) : Int32 := if s (56 + 3 * m) = s 3 then (if s (56 + 3 * m + 1) = p then a ||| ((1 : Int32) <<< (s (56 + 3 * m + 2) &&& 31)) else if s (56 + 3 * m + 2) = p then a ||| ((1 : Int32) <<< (s (56 + 3 * m + 1) &&& 31)) else a) else a
theorem or_0 (a : Int32) : a ||| 0 = a := by simp
theorem s_isVoidC {x : Nat × (Nat → Int32)} {d : Nat} {I : Nat → Nat → Int32} {J : Nat → Nat → Int64} {R : Nat → Nat → Option Nat} {G : zG} {st pl c : Nat} {s : Nat → Int32} (hst : StR I R G st pl s) (cn : CnV I (st + 2 + c) s c) (cz : zo G (st + 2 + c) 1) : zRn x d 37 [.ref st, .ref (st + 2 + c)] (I, J, R, G) (some (.int (bI (¬ s 3 - s (8 + 6 * c + 2) ≤ s 7)))) (I, J, R, G) := by
  show zOk x d 37 0 [.ref st, .ref (st + 2 + c)] [] _ _
  refine k_aload f37_0 rfl ?_
  refine k_gI (w := s 3) f37_1 hst.1.1 rfl hst.2.2.2.2.1 ?_
  refine k_aload f37_4 rfl ?_
  refine k_gI (w := s (8 + 6 * c + 2)) f37_5 cz rfl cn.2.2.1 ?_
  refine k_isub f37_8 ?_
  refine k_aload f37_9 rfl ?_
  refine k_getr (q := pl) f37_10 hst.1.1 rfl hst.2.1 ?_
  refine k_gI (w := s 7) f37_13 hst.2.2.1.2.1 rfl hst.2.2.2.1.2.1 ?_
  refine k_ic_le f37_16 (fun g0 => ?_) (fun g0 => ?_)
  · refine k_iconst (v := 0) f37_23 rfl ?_
    exact k_iret f37_24 (by decide) ⟨bI_f fun h => h g0, rfl⟩
  · refine k_iconst (v := 1) f37_19 rfl ?_
    refine k_goto f37_20 ?_
    exact k_iret f37_24 (by decide) ⟨bI_t g0, rfl⟩
theorem lp_voids {x : Nat × (Nat → Int32)} {d : Nat} {I : Nat → Nat → Int32} {J : Nat → Nat → Int64} {R : Nat → Nat → Option Nat} {G : zG} {st pl n : Nat} {s : Nat → Int32} (hst : StR I R G st pl s) (hn : s 1 = nI n) (hn8 : n ≤ 8) : ∀ (f i : Nat), i + f = n → zOk x (d + 1) 38 4 [.ref st, .int (acc (fV s) i), .int (nI i)] [] (I, J, R, G) (fun w m => w = some (.int (acc (fV s) n)) ∧ m = (I, J, R, G)) := by
  intro f
  induction f with
  | zero =>
    intro i hi
    refine k_iload f38_4 rfl ?_
    refine k_aload f38_5 rfl ?_
    refine k_getr (q := pl) f38_6 hst.1.1 rfl hst.2.1 ?_
    refine k_gI (w := nI n) f38_9 hst.2.2.1.2.1 rfl (hst.2.2.2.1.2.2.1.trans hn) ?_
    refine k_ic_ge f38_12 (fun _ => ?_) (fun h_ => absurd (nI_le (by omega) (by omega)) h_)
    refine k_iload f38_40 rfl ?_
    exact k_iret f38_41 rfl ⟨by rw [show n = i by omega], rfl⟩
  | succ f ih =>
    intro i hi
    have hin : i < n := by omega
    have hcl : i < cl (s 1) := by rw [hn, cl_nI (by omega)]; exact hin
    have cn := hst.2.2.2.2.2.2.2.2 i hcl
    have cz := (hst.1.2.2.2 i (by omega)).2
    have cr := (hst.1.2.2.2 i (by omega)).1
    refine k_iload f38_4 rfl ?_
    refine k_aload f38_5 rfl ?_
    refine k_getr (q := pl) f38_6 hst.1.1 rfl hst.2.1 ?_
    refine k_gI (w := nI n) f38_9 hst.2.2.1.2.1 rfl (hst.2.2.2.1.2.2.1.trans hn) ?_
    refine k_ic_ge f38_12 (fun h_ => absurd h_ (nI_ge hin (by omega))) (fun _ => ?_)
    refine k_aload f38_15 rfl ?_
    refine k_aload f38_16 rfl ?_
    refine k_getr (q := st + 1) f38_17 hst.1.1 rfl hst.1.2.1 ?_
    refine k_iload f38_20 rfl ?_
    refine k_aar (k := i) (q := st + 2 + i) f38_21 hst.1.2.2.1 rfl rfl (by omega) (by decide) cr ?_
    refine e_v (as := [.ref (st + 2 + i)]) (rest := []) f38_22 hst.1.1 rfl rfl rfl (s_isVoidC hst cn cz) ?_
    refine k_beq f38_25 (fun g0 => ?_) (fun g0 => ?_)
    · refine k_iinc (w := nI (i + 1)) (L' := [.ref st, .int (acc (fV s) i), .int (nI (i + 1))]) f38_34 rfl (nI_1 i) rfl rfl ?_
      refine k_goto f38_37 ?_
      have e : acc (fV s) i = acc (fV s) (i + 1) := by
        rw [acc_s, fV, if_pos (Classical.not_not.mp g0)]
      rw [e]
      exact ih (i + 1) (by omega)
    · refine k_iload f38_28 rfl ?_
      refine k_iconst (v := 1) f38_29 rfl ?_
      refine k_iload f38_30 rfl ?_
      refine k_ishl f38_31 ?_
      refine k_ior f38_32 ?_
      refine k_istore (L' := [.ref st, .int ((acc (fV s) i) ||| ((1) <<< ((nI i) &&& 31))), .int (nI i)]) f38_33 rfl rfl ?_
      refine k_iinc (w := nI (i + 1)) (L' := [.ref st, .int ((acc (fV s) i) ||| ((1) <<< ((nI i) &&& 31))), .int (nI (i + 1))]) f38_34 rfl (nI_1 i) rfl rfl ?_
      refine k_goto f38_37 ?_
      have e : (acc (fV s) i) ||| ((1) <<< ((nI i) &&& 31)) = acc (fV s) (i + 1) := by
        rw [acc_s, fV, if_neg g0]
      rw [e]
      exact ih (i + 1) (by omega)
theorem s_voids {x : Nat × (Nat → Int32)} {d : Nat} {I : Nat → Nat → Int32} {J : Nat → Nat → Int64} {R : Nat → Nat → Option Nat} {G : zG} {st pl n : Nat} {s : Nat → Int32} (hst : StR I R G st pl s) (hn : s 1 = nI n) (hn8 : n ≤ 8) : zRn x (d + 1) 38 [.ref st] (I, J, R, G) (some (.int (acc (fV s) n))) (I, J, R, G) := by
  show zOk x (d + 1) 38 0 [.ref st, zU, zU] [] _ _
  refine k_iconst (v := 0) f38_0 rfl ?_
  refine k_istore (L' := [.ref st, .int (0), zU]) f38_1 rfl rfl ?_
  refine k_iconst (v := 0) f38_2 rfl ?_
  refine k_istore (L' := [.ref st, .int (0), .int (0)]) f38_3 rfl rfl ?_
  exact lp_voids hst hn hn8 n 0 (by omega)
theorem lp_held {x : Nat × (Nat → Int32)} {d : Nat} {I : Nat → Nat → Int32} {J : Nat → Nat → Int64} {R : Nat → Nat → Option Nat} {G : zG} {p : Int32} {st pl n : Nat} {s : Nat → Int32} (hst : StR I R G st pl s) (hn : s 1 = nI n) (hn8 : n ≤ 8) : ∀ (f i : Nat), i + f = n → zOk x d 39 4 [.ref st, .int (p), .int (acc (fH s p) i), .int (nI i)] [] (I, J, R, G) (fun w m => w = some (.int (acc (fH s p) n)) ∧ m = (I, J, R, G)) := by
  intro f
  induction f with
  | zero =>
    intro i hi
    refine k_iload f39_4 rfl ?_
    refine k_aload f39_5 rfl ?_
    refine k_getr (q := pl) f39_6 hst.1.1 rfl hst.2.1 ?_
    refine k_gI (w := nI n) f39_9 hst.2.2.1.2.1 rfl (hst.2.2.2.1.2.2.1.trans hn) ?_
    refine k_ic_ge f39_12 (fun _ => ?_) (fun h_ => absurd (nI_le (by omega) (by omega)) h_)
    refine k_iload f39_40 rfl ?_
    exact k_iret f39_41 rfl ⟨by rw [show n = i by omega], rfl⟩
  | succ f ih =>
    intro i hi
    have hin : i < n := by omega
    have hcl : i < cl (s 1) := by rw [hn, cl_nI (by omega)]; exact hin
    have cn := hst.2.2.2.2.2.2.2.2 i hcl
    have cz := (hst.1.2.2.2 i (by omega)).2
    have cr := (hst.1.2.2.2 i (by omega)).1
    refine k_iload f39_4 rfl ?_
    refine k_aload f39_5 rfl ?_
    refine k_getr (q := pl) f39_6 hst.1.1 rfl hst.2.1 ?_
    refine k_gI (w := nI n) f39_9 hst.2.2.1.2.1 rfl (hst.2.2.2.1.2.2.1.trans hn) ?_
    refine k_ic_ge f39_12 (fun h_ => absurd h_ (nI_ge hin (by omega))) (fun _ => ?_)
    refine k_aload f39_15 rfl ?_
    refine k_getr (q := st + 1) f39_16 hst.1.1 rfl hst.1.2.1 ?_
    refine k_iload f39_19 rfl ?_
    refine k_aar (k := i) (q := st + 2 + i) f39_20 hst.1.2.2.1 rfl rfl (by omega) (by decide) cr ?_
    refine k_gI (w := s (8 + 6 * i + 1)) f39_21 cz rfl cn.2.1 ?_
    refine k_iload f39_24 rfl ?_
    refine k_ic_ne f39_25 (fun g0 => ?_) (fun g0 => ?_)
    · refine k_iinc (w := nI (i + 1)) (L' := [.ref st, .int (p), .int (acc (fH s p) i), .int (nI (i + 1))]) f39_34 rfl (nI_1 i) rfl rfl ?_
      refine k_goto f39_37 ?_
      have e : acc (fH s p) i = acc (fH s p) (i + 1) := by
        rw [acc_s, fH, if_neg g0]
      rw [e]
      exact ih (i + 1) (by omega)
    · refine k_iload f39_28 rfl ?_
      refine k_iconst (v := 1) f39_29 rfl ?_
      refine k_iload f39_30 rfl ?_
      refine k_ishl f39_31 ?_
      refine k_ior f39_32 ?_
      refine k_istore (L' := [.ref st, .int (p), .int ((acc (fH s p) i) ||| ((1) <<< ((nI i) &&& 31))), .int (nI i)]) f39_33 rfl rfl ?_
      refine k_iinc (w := nI (i + 1)) (L' := [.ref st, .int (p), .int ((acc (fH s p) i) ||| ((1) <<< ((nI i) &&& 31))), .int (nI (i + 1))]) f39_34 rfl (nI_1 i) rfl rfl ?_
      refine k_goto f39_37 ?_
      have e : (acc (fH s p) i) ||| ((1) <<< ((nI i) &&& 31)) = acc (fH s p) (i + 1) := by
        rw [acc_s, fH, if_pos (Classical.not_not.mp g0)]
      rw [e]
      exact ih (i + 1) (by omega)
theorem s_held {x : Nat × (Nat → Int32)} {d : Nat} {I : Nat → Nat → Int32} {J : Nat → Nat → Int64} {R : Nat → Nat → Option Nat} {G : zG} {p : Int32} {st pl n : Nat} {s : Nat → Int32} (hst : StR I R G st pl s) (hn : s 1 = nI n) (hn8 : n ≤ 8) : zRn x d 39 [.ref st, .int (p)] (I, J, R, G) (some (.int (acc (fH s p) n))) (I, J, R, G) := by
  show zOk x d 39 0 [.ref st, .int (p), zU, zU] [] _ _
  refine k_iconst (v := 0) f39_0 rfl ?_
  refine k_istore (L' := [.ref st, .int (p), .int (0), zU]) f39_1 rfl rfl ?_
  refine k_iconst (v := 0) f39_2 rfl ?_
  refine k_istore (L' := [.ref st, .int (p), .int (0), .int (0)]) f39_3 rfl rfl ?_
  exact lp_held hst hn hn8 n 0 (by omega)
theorem lp_purse {x : Nat × (Nat → Int32)} {d : Nat} {I : Nat → Nat → Int32} {J : Nat → Nat → Int64} {R : Nat → Nat → Option Nat} {G : zG} {p : Int32} {st pl n : Nat} {s : Nat → Int32} (hst : StR I R G st pl s) (hn : s 1 = nI n) (hn8 : n ≤ 8) : ∀ (f i : Nat), i + f = n → zOk x d 40 4 [.ref st, .int (p), .int (acc (fC s p) i), .int (nI i)] [] (I, J, R, G) (fun w m => w = some (.int (acc (fC s p) n)) ∧ m = (I, J, R, G)) := by
  intro f
  induction f with
  | zero =>
    intro i hi
    refine k_iload f40_4 rfl ?_
    refine k_aload f40_5 rfl ?_
    refine k_getr (q := pl) f40_6 hst.1.1 rfl hst.2.1 ?_
    refine k_gI (w := nI n) f40_9 hst.2.2.1.2.1 rfl (hst.2.2.2.1.2.2.1.trans hn) ?_
    refine k_ic_ge f40_12 (fun _ => ?_) (fun h_ => absurd (nI_le (by omega) (by omega)) h_)
    refine k_iload f40_37 rfl ?_
    exact k_iret f40_38 rfl ⟨by rw [show n = i by omega], rfl⟩
  | succ f ih =>
    intro i hi
    have hin : i < n := by omega
    have hcl : i < cl (s 1) := by rw [hn, cl_nI (by omega)]; exact hin
    have cn := hst.2.2.2.2.2.2.2.2 i hcl
    have cz := (hst.1.2.2.2 i (by omega)).2
    have cr := (hst.1.2.2.2 i (by omega)).1
    refine k_iload f40_4 rfl ?_
    refine k_aload f40_5 rfl ?_
    refine k_getr (q := pl) f40_6 hst.1.1 rfl hst.2.1 ?_
    refine k_gI (w := nI n) f40_9 hst.2.2.1.2.1 rfl (hst.2.2.2.1.2.2.1.trans hn) ?_
    refine k_ic_ge f40_12 (fun h_ => absurd h_ (nI_ge hin (by omega))) (fun _ => ?_)
    refine k_aload f40_15 rfl ?_
    refine k_getr (q := st + 1) f40_16 hst.1.1 rfl hst.1.2.1 ?_
    refine k_iload f40_19 rfl ?_
    refine k_aar (k := i) (q := st + 2 + i) f40_20 hst.1.2.2.1 rfl rfl (by omega) (by decide) cr ?_
    refine k_gI (w := s (8 + 6 * i + 1)) f40_21 cz rfl cn.2.1 ?_
    refine k_iload f40_24 rfl ?_
    refine k_ic_ne f40_25 (fun g0 => ?_) (fun g0 => ?_)
    · refine k_iinc (w := nI (i + 1)) (L' := [.ref st, .int (p), .int (acc (fC s p) i), .int (nI (i + 1))]) f40_31 rfl (nI_1 i) rfl rfl ?_
      refine k_goto f40_34 ?_
      have e : acc (fC s p) i = acc (fC s p) (i + 1) := by
        rw [acc_s, fC, if_neg g0]
      rw [e]
      exact ih (i + 1) (by omega)
    · refine k_iinc (w := (acc (fC s p) i) + 1) (L' := [.ref st, .int (p), .int ((acc (fC s p) i) + 1), .int (nI i)]) f40_28 rfl rfl rfl rfl ?_
      refine k_iinc (w := nI (i + 1)) (L' := [.ref st, .int (p), .int ((acc (fC s p) i) + 1), .int (nI (i + 1))]) f40_31 rfl (nI_1 i) rfl rfl ?_
      refine k_goto f40_34 ?_
      have e : (acc (fC s p) i) + 1 = acc (fC s p) (i + 1) := by
        rw [acc_s, fC, if_pos (Classical.not_not.mp g0)]
      rw [e]
      exact ih (i + 1) (by omega)
theorem s_purse {x : Nat × (Nat → Int32)} {d : Nat} {I : Nat → Nat → Int32} {J : Nat → Nat → Int64} {R : Nat → Nat → Option Nat} {G : zG} {p : Int32} {st pl n : Nat} {s : Nat → Int32} (hst : StR I R G st pl s) (hn : s 1 = nI n) (hn8 : n ≤ 8) : zRn x d 40 [.ref st, .int (p)] (I, J, R, G) (some (.int (acc (fC s p) n))) (I, J, R, G) := by
  show zOk x d 40 0 [.ref st, .int (p), zU, zU] [] _ _
  refine k_iconst (v := 0) f40_0 rfl ?_
  refine k_istore (L' := [.ref st, .int (p), .int (0), zU]) f40_1 rfl rfl ?_
  refine k_iconst (v := 0) f40_2 rfl ?_
  refine k_istore (L' := [.ref st, .int (p), .int (0), .int (0)]) f40_3 rfl rfl ?_
  exact lp_purse hst hn hn8 n 0 (by omega)
theorem lp_toldCoins {x : Nat × (Nat → Int32)} {d : Nat} {I : Nat → Nat → Int32} {J : Nat → Nat → Int64} {R : Nat → Nat → Option Nat} {G : zG} {st pl n : Nat} {s : Nat → Int32} (hst : StR I R G st pl s) (hn : s 1 = nI n) (hn8 : n ≤ 8) : ∀ (f i : Nat), i + f = n → zOk x d 43 4 [.ref st, .int (acc (fT s) i), .int (nI i)] [] (I, J, R, G) (fun w m => w = some (.int (acc (fT s) n)) ∧ m = (I, J, R, G)) := by
  intro f
  induction f with
  | zero =>
    intro i hi
    refine k_iload f43_4 rfl ?_
    refine k_aload f43_5 rfl ?_
    refine k_getr (q := pl) f43_6 hst.1.1 rfl hst.2.1 ?_
    refine k_gI (w := nI n) f43_9 hst.2.2.1.2.1 rfl (hst.2.2.2.1.2.2.1.trans hn) ?_
    refine k_ic_ge f43_12 (fun _ => ?_) (fun h_ => absurd (nI_le (by omega) (by omega)) h_)
    refine k_iload f43_37 rfl ?_
    exact k_iret f43_38 rfl ⟨by rw [show n = i by omega], rfl⟩
  | succ f ih =>
    intro i hi
    have hin : i < n := by omega
    have hcl : i < cl (s 1) := by rw [hn, cl_nI (by omega)]; exact hin
    have cn := hst.2.2.2.2.2.2.2.2 i hcl
    have cz := (hst.1.2.2.2 i (by omega)).2
    have cr := (hst.1.2.2.2 i (by omega)).1
    refine k_iload f43_4 rfl ?_
    refine k_aload f43_5 rfl ?_
    refine k_getr (q := pl) f43_6 hst.1.1 rfl hst.2.1 ?_
    refine k_gI (w := nI n) f43_9 hst.2.2.1.2.1 rfl (hst.2.2.2.1.2.2.1.trans hn) ?_
    refine k_ic_ge f43_12 (fun h_ => absurd h_ (nI_ge hin (by omega))) (fun _ => ?_)
    refine k_aload f43_15 rfl ?_
    refine k_getr (q := st + 1) f43_16 hst.1.1 rfl hst.1.2.1 ?_
    refine k_iload f43_19 rfl ?_
    refine k_aar (k := i) (q := st + 2 + i) f43_20 hst.1.2.2.1 rfl rfl (by omega) (by decide) cr ?_
    refine k_gI (w := s (131 + i)) f43_21 cz rfl cn.2.2.2.2.2.2 ?_
    refine k_iconst (v := (-1)) f43_24 rfl ?_
    refine k_ic_eq f43_25 (fun g0 => ?_) (fun g0 => ?_)
    · refine k_iinc (w := nI (i + 1)) (L' := [.ref st, .int (acc (fT s) i), .int (nI (i + 1))]) f43_31 rfl (nI_1 i) rfl rfl ?_
      refine k_goto f43_34 ?_
      have e : acc (fT s) i = acc (fT s) (i + 1) := by
        rw [acc_s, fT, if_pos g0]
      rw [e]
      exact ih (i + 1) (by omega)
    · refine k_iinc (w := (acc (fT s) i) + 1) (L' := [.ref st, .int ((acc (fT s) i) + 1), .int (nI i)]) f43_28 rfl rfl rfl rfl ?_
      refine k_iinc (w := nI (i + 1)) (L' := [.ref st, .int ((acc (fT s) i) + 1), .int (nI (i + 1))]) f43_31 rfl (nI_1 i) rfl rfl ?_
      refine k_goto f43_34 ?_
      have e : (acc (fT s) i) + 1 = acc (fT s) (i + 1) := by
        rw [acc_s, fT, if_neg g0]
      rw [e]
      exact ih (i + 1) (by omega)
theorem s_toldCoins {x : Nat × (Nat → Int32)} {d : Nat} {I : Nat → Nat → Int32} {J : Nat → Nat → Int64} {R : Nat → Nat → Option Nat} {G : zG} {st pl n : Nat} {s : Nat → Int32} (hst : StR I R G st pl s) (hn : s 1 = nI n) (hn8 : n ≤ 8) : zRn x d 43 [.ref st] (I, J, R, G) (some (.int (acc (fT s) n))) (I, J, R, G) := by
  show zOk x d 43 0 [.ref st, zU, zU] [] _ _
  refine k_iconst (v := 0) f43_0 rfl ?_
  refine k_istore (L' := [.ref st, .int (0), zU]) f43_1 rfl rfl ?_
  refine k_iconst (v := 0) f43_2 rfl ?_
  refine k_istore (L' := [.ref st, .int (0), .int (0)]) f43_3 rfl rfl ?_
  exact lp_toldCoins hst hn hn8 n 0 (by omega)
theorem lp_metToday {x : Nat × (Nat → Int32)} {d : Nat} {I : Nat → Nat → Int32} {J : Nat → Nat → Int64} {R : Nat → Nat → Option Nat} {G : zG} {p : Int32} {st pl n : Nat} {s : Nat → Int32} (hst : StR I R G st pl s) (hn : s 2 = nI n) (hn8 : n ≤ 24) : ∀ (f i : Nat), i + f = n → zOk x d 42 4 [.ref st, .int (p), .int (acc (fM s p) i), .int (nI i)] [] (I, J, R, G) (fun w m => w = some (.int (acc (fM s p) n)) ∧ m = (I, J, R, G)) := by
  intro f
  induction f with
  | zero =>
    intro i hi
    refine k_iload f42_4 rfl ?_
    refine k_aload f42_5 rfl ?_
    refine k_getr (q := pl) f42_6 hst.1.1 rfl hst.2.1 ?_
    refine k_gI (w := nI n) f42_9 hst.2.2.1.2.1 rfl (hst.2.2.2.1.2.2.2.1.trans hn) ?_
    refine k_ic_ge f42_12 (fun _ => ?_) (fun h_ => absurd (nI_le (by omega) (by omega)) h_)
    refine k_iload f42_94 rfl ?_
    exact k_iret f42_95 rfl ⟨by rw [show n = i by omega], rfl⟩
  | succ f ih =>
    intro i hi
    have hin : i < n := by omega
    have hcl : i < cl (s 2) := by rw [hn, cl_nI (by omega)]; exact hin
    have mt := hst.2.2.2.1.2.2.2.2 i hcl
    refine k_iload f42_4 rfl ?_
    refine k_aload f42_5 rfl ?_
    refine k_getr (q := pl) f42_6 hst.1.1 rfl hst.2.1 ?_
    refine k_gI (w := nI n) f42_9 hst.2.2.1.2.1 rfl (hst.2.2.2.1.2.2.2.1.trans hn) ?_
    refine k_ic_ge f42_12 (fun h_ => absurd h_ (nI_ge hin (by omega))) (fun _ => ?_)
    refine k_aload f42_15 rfl ?_
    refine k_getr (q := pl) f42_16 hst.1.1 rfl hst.2.1 ?_
    refine k_getr (q := pl + 4) f42_19 hst.2.2.1.2.1 rfl (hst.2.2.1.2.2.1 3 (by omega)) ?_
    refine k_iload f42_22 rfl ?_
    refine k_ia (k := i) (w := s (56 + 3 * i)) f42_23 (hst.2.2.1.2.2.2.2 0 (by omega)) rfl (by omega) (by decide) mt.1 ?_
    refine k_aload f42_24 rfl ?_
    refine k_gI (w := s 3) f42_25 hst.1.1 rfl hst.2.2.2.2.1 ?_
    refine k_ic_ne f42_28 (fun g0 => ?_) (fun g0 => ?_)
    · refine k_iinc (w := nI (i + 1)) (L' := [.ref st, .int (p), .int (acc (fM s p) i), .int (nI (i + 1))]) f42_88 rfl (nI_1 i) rfl rfl ?_
      refine k_goto f42_91 ?_
      have e : acc (fM s p) i = acc (fM s p) (i + 1) := by
        rw [acc_s, fM, if_neg g0]
      rw [e]
      exact ih (i + 1) (by omega)
    · refine k_aload f42_31 rfl ?_
      refine k_getr (q := pl) f42_32 hst.1.1 rfl hst.2.1 ?_
      refine k_getr (q := pl + 5) f42_35 hst.2.2.1.2.1 rfl (hst.2.2.1.2.2.1 4 (by omega)) ?_
      refine k_iload f42_38 rfl ?_
      refine k_ia (k := i) (w := s (56 + 3 * i + 1)) f42_39 (hst.2.2.1.2.2.2.2 1 (by omega)) rfl (by omega) (by decide) mt.2.1 ?_
      refine k_iload f42_40 rfl ?_
      refine k_ic_ne f42_41 (fun g1 => ?_) (fun g1 => ?_)
      · refine k_aload f42_61 rfl ?_
        refine k_getr (q := pl) f42_62 hst.1.1 rfl hst.2.1 ?_
        refine k_getr (q := pl + 6) f42_65 hst.2.2.1.2.1 rfl (hst.2.2.1.2.2.1 5 (by omega)) ?_
        refine k_iload f42_68 rfl ?_
        refine k_ia (k := i) (w := s (56 + 3 * i + 2)) f42_69 (hst.2.2.1.2.2.2.2 2 (by omega)) rfl (by omega) (by decide) mt.2.2.1 ?_
        refine k_iload f42_70 rfl ?_
        refine k_ic_ne f42_71 (fun g2 => ?_) (fun g2 => ?_)
        · refine k_iinc (w := nI (i + 1)) (L' := [.ref st, .int (p), .int (acc (fM s p) i), .int (nI (i + 1))]) f42_88 rfl (nI_1 i) rfl rfl ?_
          refine k_goto f42_91 ?_
          have e : acc (fM s p) i = acc (fM s p) (i + 1) := by
            rw [acc_s, fM, if_pos (Classical.not_not.mp g0), if_neg g1, if_neg g2]
          rw [e]
          exact ih (i + 1) (by omega)
        · refine k_iload f42_74 rfl ?_
          refine k_iconst (v := 1) f42_75 rfl ?_
          refine k_aload f42_76 rfl ?_
          refine k_getr (q := pl) f42_77 hst.1.1 rfl hst.2.1 ?_
          refine k_getr (q := pl + 5) f42_80 hst.2.2.1.2.1 rfl (hst.2.2.1.2.2.1 4 (by omega)) ?_
          refine k_iload f42_83 rfl ?_
          refine k_ia (k := i) (w := s (56 + 3 * i + 1)) f42_84 (hst.2.2.1.2.2.2.2 1 (by omega)) rfl (by omega) (by decide) mt.2.1 ?_
          refine k_ishl f42_85 ?_
          refine k_ior f42_86 ?_
          refine k_istore (L' := [.ref st, .int (p), .int ((acc (fM s p) i) ||| ((1) <<< ((s (56 + 3 * i + 1)) &&& 31))), .int (nI i)]) f42_87 rfl rfl ?_
          refine k_iinc (w := nI (i + 1)) (L' := [.ref st, .int (p), .int ((acc (fM s p) i) ||| ((1) <<< ((s (56 + 3 * i + 1)) &&& 31))), .int (nI (i + 1))]) f42_88 rfl (nI_1 i) rfl rfl ?_
          refine k_goto f42_91 ?_
          have e : (acc (fM s p) i) ||| ((1) <<< ((s (56 + 3 * i + 1)) &&& 31)) = acc (fM s p) (i + 1) := by
            rw [acc_s, fM, if_pos (Classical.not_not.mp g0), if_neg g1, if_pos (Classical.not_not.mp g2)]
          rw [e]
          exact ih (i + 1) (by omega)
      · refine k_iload f42_44 rfl ?_
        refine k_iconst (v := 1) f42_45 rfl ?_
        refine k_aload f42_46 rfl ?_
        refine k_getr (q := pl) f42_47 hst.1.1 rfl hst.2.1 ?_
        refine k_getr (q := pl + 6) f42_50 hst.2.2.1.2.1 rfl (hst.2.2.1.2.2.1 5 (by omega)) ?_
        refine k_iload f42_53 rfl ?_
        refine k_ia (k := i) (w := s (56 + 3 * i + 2)) f42_54 (hst.2.2.1.2.2.2.2 2 (by omega)) rfl (by omega) (by decide) mt.2.2.1 ?_
        refine k_ishl f42_55 ?_
        refine k_ior f42_56 ?_
        refine k_istore (L' := [.ref st, .int (p), .int ((acc (fM s p) i) ||| ((1) <<< ((s (56 + 3 * i + 2)) &&& 31))), .int (nI i)]) f42_57 rfl rfl ?_
        refine k_goto f42_58 ?_
        refine k_iinc (w := nI (i + 1)) (L' := [.ref st, .int (p), .int ((acc (fM s p) i) ||| ((1) <<< ((s (56 + 3 * i + 2)) &&& 31))), .int (nI (i + 1))]) f42_88 rfl (nI_1 i) rfl rfl ?_
        refine k_goto f42_91 ?_
        have e : (acc (fM s p) i) ||| ((1) <<< ((s (56 + 3 * i + 2)) &&& 31)) = acc (fM s p) (i + 1) := by
          rw [acc_s, fM, if_pos (Classical.not_not.mp g0), if_pos (Classical.not_not.mp g1)]
        rw [e]
        exact ih (i + 1) (by omega)
theorem s_metToday {x : Nat × (Nat → Int32)} {d : Nat} {I : Nat → Nat → Int32} {J : Nat → Nat → Int64} {R : Nat → Nat → Option Nat} {G : zG} {p : Int32} {st pl n : Nat} {s : Nat → Int32} (hst : StR I R G st pl s) (hn : s 2 = nI n) (hn8 : n ≤ 24) : zRn x d 42 [.ref st, .int (p)] (I, J, R, G) (some (.int (acc (fM s p) n))) (I, J, R, G) := by
  show zOk x d 42 0 [.ref st, .int (p), zU, zU] [] _ _
  refine k_iconst (v := 0) f42_0 rfl ?_
  refine k_istore (L' := [.ref st, .int (p), .int (0), zU]) f42_1 rfl rfl ?_
  refine k_iconst (v := 0) f42_2 rfl ?_
  refine k_istore (L' := [.ref st, .int (p), .int (0), .int (0)]) f42_3 rfl rfl ?_
  exact lp_metToday hst hn hn8 n 0 (by omega)
theorem lp_goodWorth {x : Nat × (Nat → Int32)} {d : Nat} {I : Nat → Nat → Int32} {J : Nat → Nat → Int64} {R : Nat → Nat → Option Nat} {G : zG} {p : Int32} {st pl n : Nat} {s : Nat → Int32} (hst : StR I R G st pl s) (hn : s 1 = nI n) (hn8 : n ≤ 8) : ∀ (f i : Nat) (u : Value), i + f = n → zOk x (d + 1) 41 4 [.ref st, .int (p), .int (acc (fG s p) i), .int (nI i), u] [] (I, J, R, G) (fun w m => w = some (.int (acc (fG s p) n)) ∧ m = (I, J, R, G)) := by
  intro f
  induction f with
  | zero =>
    intro i u hi
    refine k_iload f41_4 rfl ?_
    refine k_aload f41_5 rfl ?_
    refine k_getr (q := pl) f41_6 hst.1.1 rfl hst.2.1 ?_
    refine k_gI (w := nI n) f41_9 hst.2.2.1.2.1 rfl (hst.2.2.2.1.2.2.1.trans hn) ?_
    refine k_ic_ge f41_12 (fun _ => ?_) (fun h_ => absurd (nI_le (by omega) (by omega)) h_)
    refine k_iload f41_55 rfl ?_
    exact k_iret f41_56 rfl ⟨by rw [show n = i by omega], rfl⟩
  | succ f ih =>
    intro i u hi
    have hin : i < n := by omega
    have hcl : i < cl (s 1) := by rw [hn, cl_nI (by omega)]; exact hin
    have cn := hst.2.2.2.2.2.2.2.2 i hcl
    have cz := (hst.1.2.2.2 i (by omega)).2
    have cr := (hst.1.2.2.2 i (by omega)).1
    refine k_iload f41_4 rfl ?_
    refine k_aload f41_5 rfl ?_
    refine k_getr (q := pl) f41_6 hst.1.1 rfl hst.2.1 ?_
    refine k_gI (w := nI n) f41_9 hst.2.2.1.2.1 rfl (hst.2.2.2.1.2.2.1.trans hn) ?_
    refine k_ic_ge f41_12 (fun h_ => absurd h_ (nI_ge hin (by omega))) (fun _ => ?_)
    refine k_aload f41_15 rfl ?_
    refine k_getr (q := st + 1) f41_16 hst.1.1 rfl hst.1.2.1 ?_
    refine k_iload f41_19 rfl ?_
    refine k_aar (k := i) (q := st + 2 + i) f41_20 hst.1.2.2.1 rfl rfl (by omega) (by decide) cr ?_
    refine k_astore (L' := [.ref st, .int (p), .int (acc (fG s p) i), .int (nI i), .ref (st + 2 + i)]) f41_21 rfl rfl ?_
    refine k_aload f41_23 rfl ?_
    refine k_gI (w := s (8 + 6 * i + 1)) f41_25 cz rfl cn.2.1 ?_
    refine k_iload f41_28 rfl ?_
    refine k_ic_ne f41_29 (fun g0 => ?_) (fun g0 => ?_)
    · refine k_iinc (w := nI (i + 1)) (L' := [.ref st, .int (p), .int (acc (fG s p) i), .int (nI (i + 1)), .ref (st + 2 + i)]) f41_49 rfl (nI_1 i) rfl rfl ?_
      refine k_goto f41_52 ?_
      have e : acc (fG s p) i = acc (fG s p) (i + 1) := by
        rw [acc_s, fG, if_neg g0]
      rw [e]
      exact ih (i + 1) _ (by omega)
    · refine k_aload f41_32 rfl ?_
      refine k_aload f41_33 rfl ?_
      refine e_v (as := [.ref (st + 2 + i)]) (rest := []) f41_35 hst.1.1 rfl rfl rfl (s_isVoidC hst cn cz) ?_
      refine k_bne f41_38 (fun g1 => ?_) (fun g1 => ?_)
      · refine k_iinc (w := nI (i + 1)) (L' := [.ref st, .int (p), .int (acc (fG s p) i), .int (nI (i + 1)), .ref (st + 2 + i)]) f41_49 rfl (nI_1 i) rfl rfl ?_
        refine k_goto f41_52 ?_
        have e : acc (fG s p) i = acc (fG s p) (i + 1) := by
          rw [acc_s, fG, if_pos (Classical.not_not.mp g0), if_neg g1]
        rw [e]
        exact ih (i + 1) _ (by omega)
      · refine k_iload f41_41 rfl ?_
        refine k_aload f41_42 rfl ?_
        refine k_gI (w := s (8 + 6 * i)) f41_44 cz rfl cn.1 ?_
        refine k_iadd f41_47 ?_
        refine k_istore (L' := [.ref st, .int (p), .int ((acc (fG s p) i) + (s (8 + 6 * i))), .int (nI i), .ref (st + 2 + i)]) f41_48 rfl rfl ?_
        refine k_iinc (w := nI (i + 1)) (L' := [.ref st, .int (p), .int ((acc (fG s p) i) + (s (8 + 6 * i))), .int (nI (i + 1)), .ref (st + 2 + i)]) f41_49 rfl (nI_1 i) rfl rfl ?_
        refine k_goto f41_52 ?_
        have e : (acc (fG s p) i) + (s (8 + 6 * i)) = acc (fG s p) (i + 1) := by
          rw [acc_s, fG, if_pos (Classical.not_not.mp g0), if_pos (Classical.not_not.mp g1)]
        rw [e]
        exact ih (i + 1) _ (by omega)
theorem s_goodWorth {x : Nat × (Nat → Int32)} {d : Nat} {I : Nat → Nat → Int32} {J : Nat → Nat → Int64} {R : Nat → Nat → Option Nat} {G : zG} {p : Int32} {st pl n : Nat} {s : Nat → Int32} (hst : StR I R G st pl s) (hn : s 1 = nI n) (hn8 : n ≤ 8) : zRn x (d + 1) 41 [.ref st, .int (p)] (I, J, R, G) (some (.int (acc (fG s p) n))) (I, J, R, G) := by
  show zOk x (d + 1) 41 0 [.ref st, .int (p), zU, zU, zU] [] _ _
  refine k_iconst (v := 0) f41_0 rfl ?_
  refine k_istore (L' := [.ref st, .int (p), .int (0), zU, zU]) f41_1 rfl rfl ?_
  refine k_iconst (v := 0) f41_2 rfl ?_
  refine k_istore (L' := [.ref st, .int (p), .int (0), .int (0), zU]) f41_3 rfl rfl ?_
  exact lp_goodWorth hst hn hn8 n 0 _ (by omega)
