/-! STRINGS. -/
def sB : List (List Nat) := [[112, 97, 121, 32, 98, 97, 114, 32, 104, 111, 109, 101, 32], [97, 110, 100], [111, 114], [110, 111, 116], [99, 111, 105, 110, 32, 119, 111, 114, 116, 104, 32, 97, 103, 101, 32, 104, 97, 110, 100, 115, 32, 115, 116, 114, 97, 110, 103, 101, 32, 112, 117, 114, 115, 101, 32, 103, 105, 118, 101, 114, 32, 116, 97, 107, 101, 114, 32, 100, 97, 121, 32], [112, 101, 111, 112, 108, 101, 32, 121, 101, 97, 114, 32, 99, 111, 105, 110, 32, 109, 101, 101, 116, 32]]
def sBk (k : Nat) : List Nat := sB.getD k []
def sB_ok : Bool := (List.range 6).all (fun k => decide ((sBk k).length = z_len.getD k 0) && decide (z_len.getD k 0 < 60) && (List.range (z_len.getD k 0)).all (fun i => decide ((sBk k).getD i 0 < 128) && decide ((z_byt.getD k []).getD i 0 = nI ((sBk k).getD i 0)) && decide (((((z_byt.getD k []).getD i 0) &&& 255).toUInt32 % 65536).toInt32 = nI ((sBk k).getD i 0)) && decide (z_nar 3 (nI ((sBk k).getD i 0)) = nI ((sBk k).getD i 0))))
theorem sB_all : sB_ok = true := by decide +kernel
theorem sB_len {k : Nat} (hk : k < 6) : (sBk k).length = z_len.getD k 0 ∧ z_len.getD k 0 < 60 := by
  have h := List.all_eq_true.mp sB_all k (List.mem_range.mpr hk)
  simp only [Bool.and_eq_true, decide_eq_true_eq] at h
  exact h.1
theorem sB_at {k i : Nat} (hk : k < 6) (hi : i < (sBk k).length) : (sBk k).getD i 0 < 128 ∧ (z_byt.getD k []).getD i 0 = nI ((sBk k).getD i 0) ∧ ((((z_byt.getD k []).getD i 0) &&& 255).toUInt32 % 65536).toInt32 = nI ((sBk k).getD i 0) ∧ z_nar 3 (nI ((sBk k).getD i 0)) = nI ((sBk k).getD i 0) := by
  have h := List.all_eq_true.mp sB_all k (List.mem_range.mpr hk)
  simp only [Bool.and_eq_true, decide_eq_true_eq] at h
  have g := List.all_eq_true.mp h.2 i (List.mem_range.mpr (h.1.1 ▸ hi))
  simp only [Bool.and_eq_true, decide_eq_true_eq] at g
  exact ⟨g.1.1.1, g.1.1.2, g.1.2, g.2⟩
theorem s_coder {x : Nat × (Nat → Int32)} {d k : Nat} {m : zM} (hk : k < 6) : zRn x d 208 [.retAddr k] m (some (.int 0)) m := by
  show zOk x d 208 0 [.retAddr k] [] _ _
  refine k_gs0 f208_0 ?_
  refine k_if_eq f208_3 (fun h_ => absurd h_ (by decide)) (fun _ => ?_)
  refine k_aloadx f208_6 rfl (by omega) ?_
  refine k_strc f208_7 hk ?_
  refine k_goto f208_10 ?_
  exact k_iret f208_14 (by decide) ⟨rfl, rfl⟩
theorem s_latin {x : Nat × (Nat → Int32)} {d k : Nat} {m : zM} (hk : k < 6) : zRn x d 209 [.retAddr k] m (some (.int 1)) m := by
  show zOk x d 209 0 [.retAddr k] [] _ _
  refine k_gs0 f209_0 ?_
  refine k_if_eq f209_3 (fun h_ => absurd h_ (by decide)) (fun _ => ?_)
  refine k_aloadx f209_6 rfl (by omega) ?_
  refine k_strc f209_7 hk ?_
  refine k_if_ne f209_10 (fun h_ => absurd rfl h_) (fun _ => ?_)
  refine k_iconst (v := 1) f209_13 rfl ?_
  refine k_goto f209_14 ?_
  exact k_iret f209_18 (by decide) ⟨rfl, rfl⟩
theorem s_slen {x : Nat × (Nat → Int32)} {d k : Nat} {m : zM} (hk : k < 6) : zRn x (d + 1) 206 [.retAddr k] m (some (.int (nI (sBk k).length))) m := by
  show zOk x (d + 1) 206 0 [.retAddr k] [] _ _
  refine k_aloadx f206_0 rfl (by omega) ?_
  refine k_strv f206_1 hk ?_
  refine k_blen (v := nI (sBk k).length) f206_4 hk (by rw [(sB_len hk).1]; rfl) ?_
  refine k_aloadx f206_5 rfl (by omega) ?_
  refine e_x (as := []) (rest := [.int (nI (sBk k).length)]) f206_6 hk rfl rfl rfl rfl (s_coder hk) ?_
  refine k_ishr f206_9 ?_
  exact k_iret f206_10 rfl ⟨by rw [show ((0 : Int32) &&& 31) = 0 from by decide]; simp, rfl⟩
theorem s_check {x : Nat × (Nat → Int32)} {d i n : Nat} {m : zM} (hi : i < n) (hn : n < 1000) : zRn x (d + 1) 210 [.int (nI i), .int (nI n)] m none m := by
  show zOk x (d + 1) 210 0 [.int (nI i), .int (nI n)] [] _ _
  refine k_iload f210_0 rfl ?_
  refine k_iload f210_1 rfl ?_
  refine k_gs1 f210_2 ?_
  refine e_s (as := [.retAddr 20, .int (nI n), .int (nI i)]) (rest := []) (v := some (.int (nI i))) (m' := m) f210_5 rfl rfl rfl ?_ ?_
  · show zOk x d 214 0 [.int (nI i), .int (nI n), .retAddr 20] [] _ _
    refine k_iload f214_0 rfl ?_
    refine k_if_lt f214_1 (fun h_ => absurd ((nI_ltI (b := 0) (by omega) (by omega)).mp h_) (by omega)) (fun _ => ?_)
    refine k_iload f214_4 rfl ?_
    refine k_iload f214_5 rfl ?_
    refine k_ic_lt f214_6 (fun _ => ?_) (fun h_ => absurd (nI_lt (by omega) (by omega)) h_)
    refine k_iload f214_16 rfl ?_
    exact k_iret f214_17 rfl ⟨rfl, rfl⟩
  · refine k_popi f210_8 ?_
    exact k_vret f210_9 ⟨rfl, rfl⟩
theorem s_charL {x : Nat × (Nat → Int32)} {d k i : Nat} {m : zM} (hk : k < 6) (hi : i < (sBk k).length) : zRn x (d + 2) 211 [.retAddr (k + 10), .int (nI i)] m (some (.int (nI ((sBk k).getD i 0)))) m := by
  obtain ⟨h1, h2, h3, h4⟩ := sB_at hk hi
  obtain ⟨l1, l2⟩ := sB_len hk
  show zOk x (d + 2) 211 0 [.retAddr (k + 10), .int (nI i)] [] _ _
  refine k_iload f211_0 rfl ?_
  refine k_aloadx f211_1 rfl (by omega) ?_
  refine k_blen (v := nI (sBk k).length) f211_2 hk (by rw [l1]; rfl) ?_
  refine e_s (as := [.int (nI (sBk k).length), .int (nI i)]) (rest := []) f211_3 rfl rfl rfl (s_check hi (by omega)) ?_
  refine k_aloadx f211_6 rfl (by omega) ?_
  refine k_iload f211_7 rfl ?_
  refine k_bldx f211_8 hk (vp_in_nI (by omega) (by omega)) (nI_clamp (by omega)) ?_
  refine k_iconst (v := 255) f211_9 rfl ?_
  refine k_iand f211_12 ?_
  refine k_i2c f211_13 ?_
  rw [h3]
  exact k_iret f211_14 h4 ⟨rfl, rfl⟩
theorem s_charAt {x : Nat × (Nat → Int32)} {d k i : Nat} {m : zM} (hk : k < 6) (hi : i < (sBk k).length) : zRn x (d + 3) 207 [.retAddr k, .int (nI i)] m (some (.int (nI ((sBk k).getD i 0)))) m := by
  obtain ⟨h1, h2, h3, h4⟩ := sB_at hk hi
  show zOk x (d + 3) 207 0 [.retAddr k, .int (nI i)] [] _ _
  refine k_aloadx f207_0 rfl (by omega) ?_
  refine e_x (as := []) (rest := []) f207_1 hk rfl rfl rfl rfl (s_latin hk) ?_
  refine k_if_eq f207_4 (fun h_ => absurd h_ (by decide)) (fun _ => ?_)
  refine k_aloadx f207_7 rfl (by omega) ?_
  refine k_strv f207_8 hk ?_
  refine k_iload f207_11 rfl ?_
  refine e_s (as := [.int (nI i), .retAddr (k + 10)]) (rest := []) f207_12 rfl rfl rfl (s_charL hk hi) ?_
  exact k_iret f207_15 h4 ⟨rfl, rfl⟩
