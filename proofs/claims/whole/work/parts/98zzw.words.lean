/-! TEXT: words. -/
def sJo : Option Nat → Int32
  | none => -1
  | some j => nI j
theorem sJo_eq {s : Option Nat} {L : Nat} (hL : L < 2 ^ 31) (hs : ∀ j, s = some j → j < 2 ^ 31) : sJo s = nI L ↔ s = some L := by
  cases s with
  | none =>
    refine ⟨fun h => ?_, fun h => by cases h⟩
    have h : (-1 : Int32) = nI L := h
    have : nI 0 ≤ nI L := nI_le (by omega) hL
    rw [← h] at this
    exact absurd this (by decide)
  | some j => exact (nI_eq (hs j rfl) hL).trans ⟨fun h => by rw [h], fun h => Option.some.inj h⟩
theorem dropc {l : List Nat} {i : Nat} (h : i < l.length) : l.drop i = l.getD i 0 :: l.drop (i + 1) := by
  rw [List.drop_eq_getElem_cons h]
  simp [List.getD, h]
theorem lp_which {x : Nat × (Nat → Int32)} {d : Nat} {I : Nat → Nat → Int32} {J : Nat → Nat → Int64} {R : Nat → Nat → Option Nat} {G : zG} {b : Nat → Nat} {n k q L : Nat} (hR : Rs R) (hS : Sh G) (hT : TP I b n) (hk : k < 6) (hq : I 9 2 = nI q) (hL : q + L ≤ n) : ∀ (f i w : Nat) (s : Option Nat) (u6 : Value), i + f = (sBk k).length → w < 100 + i → (∀ j, s = some j → j ≤ i) → zOk x (d + 4) 54 30 [.ref 9, .retAddr k, .int (nI L), .int (nI w), .int (sJo s), .int (nI i), u6] [] (I, J, R, G) (fun v m => v = some (.int (nI (wwF (fun j => b (q + j)) L ((sBk k).drop i) w s))) ∧ m = (I, J, R, G)) := by
  have h400 := hT.1
  have l60 := sB_len hk
  intro f
  induction f with
  | zero =>
    intro i w s u6 hi hw hs
    refine k_iload f54_30 rfl ?_
    refine k_aloadx f54_32 rfl (by omega) ?_
    refine e_x (as := []) (rest := [.int (nI i)]) f54_33 (by omega) rfl rfl rfl rfl (s_slen hk) ?_
    refine k_ic_ge f54_36 (fun _ => ?_) (fun h_ => absurd (nI_le (by omega) (by omega)) h_)
    refine k_iconst (v := 0) f54_119 rfl ?_
    exact k_iret f54_120 rfl ⟨by rw [show (sBk k).drop i = [] from List.drop_eq_nil_of_le (by omega)]; rfl, rfl⟩
  | succ f ih =>
    intro i w s u6 hi hw hs
    obtain ⟨c, ec⟩ : ∃ c, c = (sBk k).getD i 0 := ⟨_, rfl⟩
    have c128 : c < 128 := by rw [ec]; exact (sB_at hk (by omega)).1
    rw [dropc (show i < (sBk k).length by omega), ← ec]
    by_cases h32 : c = 32
    · have hw1 : wwF (fun j => b (q + j)) L (c :: (sBk k).drop (i + 1)) w s = if 0 < L ∧ s = some L then w else wwF (fun j => b (q + j)) L ((sBk k).drop (i + 1)) (w + 1) (some 0) := if_pos h32
      rw [hw1]
      by_cases h0 : 0 < L
      · by_cases hh : s = some L
        · rw [if_pos ⟨h0, hh⟩]
          refine k_iload f54_30 rfl ?_
          refine k_aloadx f54_32 rfl (by omega) ?_
          refine e_x (as := []) (rest := [.int (nI i)]) f54_33 (by omega) rfl rfl rfl rfl (s_slen hk) ?_
          refine k_ic_ge f54_36 (fun h_ => absurd h_ (nI_ge (by omega) (by omega))) (fun _ => ?_)
          refine k_aloadx f54_39 rfl (by omega) ?_
          refine k_iload f54_40 rfl ?_
          refine e_x (as := [.int (nI i)]) (rest := []) f54_42 (by omega) rfl rfl rfl rfl ((by have h := s_charAt (x := x) (d := d) (m := (I, J, R, G)) hk (show i < (sBk k).length by omega); rw [← ec] at h; exact h)) ?_
          refine k_istore (L' := [.ref 9, .retAddr k, .int (nI L), .int (nI w), .int (sJo s), .int (nI i), .int (nI c)]) f54_45 rfl rfl ?_
          refine k_iload f54_47 rfl ?_
          refine k_iconst (v := 32) f54_49 rfl ?_
          refine k_ic_ne f54_51 (fun h_ => absurd (congrArg nI h32) h_) (fun _ => ?_)
          refine k_iload f54_54 rfl ?_
          refine k_if_le f54_55 (fun h_ => absurd h_ (nI_ge (a := 0) h0 (by omega))) (fun _ => ?_)
          refine k_iload f54_58 rfl ?_
          refine k_iload f54_60 rfl ?_
          refine k_ic_ne f54_61 (fun h_ => absurd ((sJo_eq (by omega) (fun j hj => by have := hs j hj; omega)).mpr hh) h_) (fun _ => ?_)
          refine k_iload f54_64 rfl ?_
          exact k_iret f54_65 rfl ⟨rfl, rfl⟩
        · rw [if_neg (fun z => hh z.2)]
          refine k_iload f54_30 rfl ?_
          refine k_aloadx f54_32 rfl (by omega) ?_
          refine e_x (as := []) (rest := [.int (nI i)]) f54_33 (by omega) rfl rfl rfl rfl (s_slen hk) ?_
          refine k_ic_ge f54_36 (fun h_ => absurd h_ (nI_ge (by omega) (by omega))) (fun _ => ?_)
          refine k_aloadx f54_39 rfl (by omega) ?_
          refine k_iload f54_40 rfl ?_
          refine e_x (as := [.int (nI i)]) (rest := []) f54_42 (by omega) rfl rfl rfl rfl ((by have h := s_charAt (x := x) (d := d) (m := (I, J, R, G)) hk (show i < (sBk k).length by omega); rw [← ec] at h; exact h)) ?_
          refine k_istore (L' := [.ref 9, .retAddr k, .int (nI L), .int (nI w), .int (sJo s), .int (nI i), .int (nI c)]) f54_45 rfl rfl ?_
          refine k_iload f54_47 rfl ?_
          refine k_iconst (v := 32) f54_49 rfl ?_
          refine k_ic_ne f54_51 (fun h_ => absurd (congrArg nI h32) h_) (fun _ => ?_)
          refine k_iload f54_54 rfl ?_
          refine k_if_le f54_55 (fun h_ => absurd h_ (nI_ge (a := 0) h0 (by omega))) (fun _ => ?_)
          refine k_iload f54_58 rfl ?_
          refine k_iload f54_60 rfl ?_
          refine k_ic_ne f54_61 (fun _ => ?_) (fun h_ => absurd ((fun z => hh ((sJo_eq (by omega) (fun j hj => by have := hs j hj; omega)).mp z))) h_)
          refine k_iinc (w := nI (w + 1)) (L' := [.ref 9, .retAddr k, .int (nI L), .int (nI (w + 1)), .int (sJo s), .int (nI i), .int (nI c)]) f54_66 rfl (nI_1 w) rfl rfl ?_
          refine k_iconst (v := 0) f54_69 rfl ?_
          refine k_istore (L' := [.ref 9, .retAddr k, .int (nI L), .int (nI (w + 1)), .int (0), .int (nI i), .int (nI c)]) f54_70 rfl rfl ?_
          refine k_goto f54_72 ?_
          refine k_iinc (w := nI (i + 1)) (L' := [.ref 9, .retAddr k, .int (nI L), .int (nI (w + 1)), .int (0), .int (nI (i + 1)), .int (nI c)]) f54_113 rfl (nI_1 i) rfl rfl ?_
          refine k_goto f54_116 ?_
          exact ih (i + 1) (w + 1) (some 0) _ (by omega) (by omega) (fun j hj => by cases hj; omega)
      · rw [if_neg (fun z => h0 z.1)]
        refine k_iload f54_30 rfl ?_
        refine k_aloadx f54_32 rfl (by omega) ?_
        refine e_x (as := []) (rest := [.int (nI i)]) f54_33 (by omega) rfl rfl rfl rfl (s_slen hk) ?_
        refine k_ic_ge f54_36 (fun h_ => absurd h_ (nI_ge (by omega) (by omega))) (fun _ => ?_)
        refine k_aloadx f54_39 rfl (by omega) ?_
        refine k_iload f54_40 rfl ?_
        refine e_x (as := [.int (nI i)]) (rest := []) f54_42 (by omega) rfl rfl rfl rfl ((by have h := s_charAt (x := x) (d := d) (m := (I, J, R, G)) hk (show i < (sBk k).length by omega); rw [← ec] at h; exact h)) ?_
        refine k_istore (L' := [.ref 9, .retAddr k, .int (nI L), .int (nI w), .int (sJo s), .int (nI i), .int (nI c)]) f54_45 rfl rfl ?_
        refine k_iload f54_47 rfl ?_
        refine k_iconst (v := 32) f54_49 rfl ?_
        refine k_ic_ne f54_51 (fun h_ => absurd (congrArg nI h32) h_) (fun _ => ?_)
        refine k_iload f54_54 rfl ?_
        refine k_if_le f54_55 (fun _ => ?_) (fun h_ => absurd (nI_le (b := 0) (by omega) (by omega)) h_)
        refine k_iinc (w := nI (w + 1)) (L' := [.ref 9, .retAddr k, .int (nI L), .int (nI (w + 1)), .int (sJo s), .int (nI i), .int (nI c)]) f54_66 rfl (nI_1 w) rfl rfl ?_
        refine k_iconst (v := 0) f54_69 rfl ?_
        refine k_istore (L' := [.ref 9, .retAddr k, .int (nI L), .int (nI (w + 1)), .int (0), .int (nI i), .int (nI c)]) f54_70 rfl rfl ?_
        refine k_goto f54_72 ?_
        refine k_iinc (w := nI (i + 1)) (L' := [.ref 9, .retAddr k, .int (nI L), .int (nI (w + 1)), .int (0), .int (nI (i + 1)), .int (nI c)]) f54_113 rfl (nI_1 i) rfl rfl ?_
        refine k_goto f54_116 ?_
        exact ih (i + 1) (w + 1) (some 0) _ (by omega) (by omega) (fun j hj => by cases hj; omega)
    · cases s with
      | none =>
        rw [show wwF (fun j => b (q + j)) L (c :: (sBk k).drop (i + 1)) w none = wwF (fun j => b (q + j)) L ((sBk k).drop (i + 1)) w none from if_neg h32]
        show zOk x (d + 4) 54 30 [.ref 9, .retAddr k, .int (nI L), .int (nI w), .int ((-1)), .int (nI i), u6] [] _ _
        refine k_iload f54_30 rfl ?_
        refine k_aloadx f54_32 rfl (by omega) ?_
        refine e_x (as := []) (rest := [.int (nI i)]) f54_33 (by omega) rfl rfl rfl rfl (s_slen hk) ?_
        refine k_ic_ge f54_36 (fun h_ => absurd h_ (nI_ge (by omega) (by omega))) (fun _ => ?_)
        refine k_aloadx f54_39 rfl (by omega) ?_
        refine k_iload f54_40 rfl ?_
        refine e_x (as := [.int (nI i)]) (rest := []) f54_42 (by omega) rfl rfl rfl rfl ((by have h := s_charAt (x := x) (d := d) (m := (I, J, R, G)) hk (show i < (sBk k).length by omega); rw [← ec] at h; exact h)) ?_
        refine k_istore (L' := [.ref 9, .retAddr k, .int (nI L), .int (nI w), .int ((-1)), .int (nI i), .int (nI c)]) f54_45 rfl rfl ?_
        refine k_iload f54_47 rfl ?_
        refine k_iconst (v := 32) f54_49 rfl ?_
        refine k_ic_ne f54_51 (fun _ => ?_) (fun h_ => absurd ((fun z => h32 ((nI_eq (b := 32) (by omega) (by omega)).mp z))) h_)
        refine k_iload f54_75 rfl ?_
        refine k_if_lt f54_77 (fun _ => ?_) (fun h_ => absurd (by decide) h_)
        refine k_iconst (v := (-1)) f54_110 rfl ?_
        refine k_istore (L' := [.ref 9, .retAddr k, .int (nI L), .int (nI w), .int ((-1)), .int (nI i), .int (nI c)]) f54_111 rfl rfl ?_
        refine k_iinc (w := nI (i + 1)) (L' := [.ref 9, .retAddr k, .int (nI L), .int (nI w), .int ((-1)), .int (nI (i + 1)), .int (nI c)]) f54_113 rfl (nI_1 i) rfl rfl ?_
        refine k_goto f54_116 ?_
        exact ih (i + 1) w none _ (by omega) (by omega) (fun j hj => by cases hj)
      | some j =>
        have hj := hs j rfl
        rw [show wwF (fun j => b (q + j)) L (c :: (sBk k).drop (i + 1)) w (some j) = wwF (fun j => b (q + j)) L ((sBk k).drop (i + 1)) w (if j < L ∧ b (q + j) = c then some (j + 1) else none) from if_neg h32]
        show zOk x (d + 4) 54 30 [.ref 9, .retAddr k, .int (nI L), .int (nI w), .int (nI j), .int (nI i), u6] [] _ _
        by_cases hl : j < L
        · have b8 := (hT.2 (q + j) (by omega)).1
          by_cases hb : b (q + j) = c
          · rw [if_pos ⟨hl, hb⟩]
            refine k_iload f54_30 rfl ?_
            refine k_aloadx f54_32 rfl (by omega) ?_
            refine e_x (as := []) (rest := [.int (nI i)]) f54_33 (by omega) rfl rfl rfl rfl (s_slen hk) ?_
            refine k_ic_ge f54_36 (fun h_ => absurd h_ (nI_ge (by omega) (by omega))) (fun _ => ?_)
            refine k_aloadx f54_39 rfl (by omega) ?_
            refine k_iload f54_40 rfl ?_
            refine e_x (as := [.int (nI i)]) (rest := []) f54_42 (by omega) rfl rfl rfl rfl ((by have h := s_charAt (x := x) (d := d) (m := (I, J, R, G)) hk (show i < (sBk k).length by omega); rw [← ec] at h; exact h)) ?_
            refine k_istore (L' := [.ref 9, .retAddr k, .int (nI L), .int (nI w), .int (nI j), .int (nI i), .int (nI c)]) f54_45 rfl rfl ?_
            refine k_iload f54_47 rfl ?_
            refine k_iconst (v := 32) f54_49 rfl ?_
            refine k_ic_ne f54_51 (fun _ => ?_) (fun h_ => absurd ((fun z => h32 ((nI_eq (b := 32) (by omega) (by omega)).mp z))) h_)
            refine k_iload f54_75 rfl ?_
            refine k_if_lt f54_77 (fun h_ => absurd h_ ((fun z => absurd ((nI_ltI (b := 0) (by omega) (by omega)).mp z) (by omega)))) (fun _ => ?_)
            refine k_iload f54_80 rfl ?_
            refine k_iload f54_82 rfl ?_
            refine k_ic_ge f54_83 (fun h_ => absurd h_ (nI_ge hl (by omega))) (fun _ => ?_)
            refine k_aload f54_86 rfl ?_
            refine k_getr (q := 10) f54_87 hS.o9 rfl hR.r9_0 ?_
            refine k_aload f54_90 rfl ?_
            refine k_gI (w := nI q) f54_91 hS.o9 rfl hq ?_
            refine k_iload f54_94 rfl ?_
            refine k_iadd f54_96 ?_
            rw [nI_add]
            refine k_ca (k := (q + j)) (w := nI (b (q + j))) f54_97 hS.a10 rfl (by omega) (by decide) (hT.2 (q + j) (by omega)).2.1 ?_
            refine k_iload f54_98 rfl ?_
            refine k_ic_ne f54_100 (fun h_ => absurd (congrArg nI hb) h_) (fun _ => ?_)
            refine k_iload f54_103 rfl ?_
            refine k_iconst (v := 1) f54_105 rfl ?_
            refine k_iadd f54_106 ?_
            rw [nI_1 j]
            refine k_goto f54_107 ?_
            refine k_istore (L' := [.ref 9, .retAddr k, .int (nI L), .int (nI w), .int (nI (j + 1)), .int (nI i), .int (nI c)]) f54_111 rfl rfl ?_
            refine k_iinc (w := nI (i + 1)) (L' := [.ref 9, .retAddr k, .int (nI L), .int (nI w), .int (nI (j + 1)), .int (nI (i + 1)), .int (nI c)]) f54_113 rfl (nI_1 i) rfl rfl ?_
            refine k_goto f54_116 ?_
            exact ih (i + 1) w (some (j + 1)) _ (by omega) (by omega) (fun j2 hj2 => by cases hj2; omega)
          · rw [if_neg (fun z => hb z.2)]
            refine k_iload f54_30 rfl ?_
            refine k_aloadx f54_32 rfl (by omega) ?_
            refine e_x (as := []) (rest := [.int (nI i)]) f54_33 (by omega) rfl rfl rfl rfl (s_slen hk) ?_
            refine k_ic_ge f54_36 (fun h_ => absurd h_ (nI_ge (by omega) (by omega))) (fun _ => ?_)
            refine k_aloadx f54_39 rfl (by omega) ?_
            refine k_iload f54_40 rfl ?_
            refine e_x (as := [.int (nI i)]) (rest := []) f54_42 (by omega) rfl rfl rfl rfl ((by have h := s_charAt (x := x) (d := d) (m := (I, J, R, G)) hk (show i < (sBk k).length by omega); rw [← ec] at h; exact h)) ?_
            refine k_istore (L' := [.ref 9, .retAddr k, .int (nI L), .int (nI w), .int (nI j), .int (nI i), .int (nI c)]) f54_45 rfl rfl ?_
            refine k_iload f54_47 rfl ?_
            refine k_iconst (v := 32) f54_49 rfl ?_
            refine k_ic_ne f54_51 (fun _ => ?_) (fun h_ => absurd ((fun z => h32 ((nI_eq (b := 32) (by omega) (by omega)).mp z))) h_)
            refine k_iload f54_75 rfl ?_
            refine k_if_lt f54_77 (fun h_ => absurd h_ ((fun z => absurd ((nI_ltI (b := 0) (by omega) (by omega)).mp z) (by omega)))) (fun _ => ?_)
            refine k_iload f54_80 rfl ?_
            refine k_iload f54_82 rfl ?_
            refine k_ic_ge f54_83 (fun h_ => absurd h_ (nI_ge hl (by omega))) (fun _ => ?_)
            refine k_aload f54_86 rfl ?_
            refine k_getr (q := 10) f54_87 hS.o9 rfl hR.r9_0 ?_
            refine k_aload f54_90 rfl ?_
            refine k_gI (w := nI q) f54_91 hS.o9 rfl hq ?_
            refine k_iload f54_94 rfl ?_
            refine k_iadd f54_96 ?_
            rw [nI_add]
            refine k_ca (k := (q + j)) (w := nI (b (q + j))) f54_97 hS.a10 rfl (by omega) (by decide) (hT.2 (q + j) (by omega)).2.1 ?_
            refine k_iload f54_98 rfl ?_
            refine k_ic_ne f54_100 (fun _ => ?_) (fun h_ => absurd ((fun z => hb ((nI_eq (by omega) (by omega)).mp z))) h_)
            refine k_iconst (v := (-1)) f54_110 rfl ?_
            refine k_istore (L' := [.ref 9, .retAddr k, .int (nI L), .int (nI w), .int ((-1)), .int (nI i), .int (nI c)]) f54_111 rfl rfl ?_
            refine k_iinc (w := nI (i + 1)) (L' := [.ref 9, .retAddr k, .int (nI L), .int (nI w), .int ((-1)), .int (nI (i + 1)), .int (nI c)]) f54_113 rfl (nI_1 i) rfl rfl ?_
            refine k_goto f54_116 ?_
            exact ih (i + 1) w none _ (by omega) (by omega) (fun j2 hj2 => by cases hj2)
        · rw [if_neg (fun z => hl z.1)]
          refine k_iload f54_30 rfl ?_
          refine k_aloadx f54_32 rfl (by omega) ?_
          refine e_x (as := []) (rest := [.int (nI i)]) f54_33 (by omega) rfl rfl rfl rfl (s_slen hk) ?_
          refine k_ic_ge f54_36 (fun h_ => absurd h_ (nI_ge (by omega) (by omega))) (fun _ => ?_)
          refine k_aloadx f54_39 rfl (by omega) ?_
          refine k_iload f54_40 rfl ?_
          refine e_x (as := [.int (nI i)]) (rest := []) f54_42 (by omega) rfl rfl rfl rfl ((by have h := s_charAt (x := x) (d := d) (m := (I, J, R, G)) hk (show i < (sBk k).length by omega); rw [← ec] at h; exact h)) ?_
          refine k_istore (L' := [.ref 9, .retAddr k, .int (nI L), .int (nI w), .int (nI j), .int (nI i), .int (nI c)]) f54_45 rfl rfl ?_
          refine k_iload f54_47 rfl ?_
          refine k_iconst (v := 32) f54_49 rfl ?_
          refine k_ic_ne f54_51 (fun _ => ?_) (fun h_ => absurd ((fun z => h32 ((nI_eq (b := 32) (by omega) (by omega)).mp z))) h_)
          refine k_iload f54_75 rfl ?_
          refine k_if_lt f54_77 (fun h_ => absurd h_ ((fun z => absurd ((nI_ltI (b := 0) (by omega) (by omega)).mp z) (by omega)))) (fun _ => ?_)
          refine k_iload f54_80 rfl ?_
          refine k_iload f54_82 rfl ?_
          refine k_ic_ge f54_83 (fun _ => ?_) (fun h_ => absurd (nI_le (by omega) (by omega)) h_)
          refine k_iconst (v := (-1)) f54_110 rfl ?_
          refine k_istore (L' := [.ref 9, .retAddr k, .int (nI L), .int (nI w), .int ((-1)), .int (nI i), .int (nI c)]) f54_111 rfl rfl ?_
          refine k_iinc (w := nI (i + 1)) (L' := [.ref 9, .retAddr k, .int (nI L), .int (nI w), .int ((-1)), .int (nI (i + 1)), .int (nI c)]) f54_113 rfl (nI_1 i) rfl rfl ?_
          refine k_goto f54_116 ?_
          exact ih (i + 1) w none _ (by omega) (by omega) (fun j2 hj2 => by cases hj2)
theorem lp_which0 {x : Nat × (Nat → Int32)} {d : Nat} {I : Nat → Nat → Int32} {J : Nat → Nat → Int64} {R : Nat → Nat → Option Nat} {G : zG} {k : Nat} (hR : Rs R) (hS : Sh G) (hk : k < 6) : ∀ (f i w : Nat) (s : Option Nat) (u6 : Value), i + f = (sBk k).length → w < 100 + i → (∀ j, s = some j → j ≤ i) → zOk x (d + 4) 54 30 [.ref 9, .retAddr k, .int (0), .int (nI w), .int (sJo s), .int (nI i), u6] [] (I, J, R, G) (fun v m => v = some (.int 0) ∧ m = (I, J, R, G)) := by
  have l60 := sB_len hk
  intro f
  induction f with
  | zero =>
    intro i w s u6 hi hw hs
    refine k_iload f54_30 rfl ?_
    refine k_aloadx f54_32 rfl (by omega) ?_
    refine e_x (as := []) (rest := [.int (nI i)]) f54_33 (by omega) rfl rfl rfl rfl (s_slen hk) ?_
    refine k_ic_ge f54_36 (fun _ => ?_) (fun h_ => absurd (nI_le (by omega) (by omega)) h_)
    refine k_iconst (v := 0) f54_119 rfl ?_
    exact k_iret f54_120 rfl ⟨rfl, rfl⟩
  | succ f ih =>
    intro i w s u6 hi hw hs
    obtain ⟨c, ec⟩ : ∃ c, c = (sBk k).getD i 0 := ⟨_, rfl⟩
    have c128 : c < 128 := by rw [ec]; exact (sB_at hk (by omega)).1
    by_cases h32 : c = 32
    · refine k_iload f54_30 rfl ?_
      refine k_aloadx f54_32 rfl (by omega) ?_
      refine e_x (as := []) (rest := [.int (nI i)]) f54_33 (by omega) rfl rfl rfl rfl (s_slen hk) ?_
      refine k_ic_ge f54_36 (fun h_ => absurd h_ (nI_ge (by omega) (by omega))) (fun _ => ?_)
      refine k_aloadx f54_39 rfl (by omega) ?_
      refine k_iload f54_40 rfl ?_
      refine e_x (as := [.int (nI i)]) (rest := []) f54_42 (by omega) rfl rfl rfl rfl ((by have h := s_charAt (x := x) (d := d) (m := (I, J, R, G)) hk (show i < (sBk k).length by omega); rw [← ec] at h; exact h)) ?_
      refine k_istore (L' := [.ref 9, .retAddr k, .int (0), .int (nI w), .int (sJo s), .int (nI i), .int (nI c)]) f54_45 rfl rfl ?_
      refine k_iload f54_47 rfl ?_
      refine k_iconst (v := 32) f54_49 rfl ?_
      refine k_ic_ne f54_51 (fun h_ => absurd (congrArg nI h32) h_) (fun _ => ?_)
      refine k_iload f54_54 rfl ?_
      refine k_if_le f54_55 (fun _ => ?_) (fun h_ => absurd (by decide) h_)
      refine k_iinc (w := nI (w + 1)) (L' := [.ref 9, .retAddr k, .int (0), .int (nI (w + 1)), .int (sJo s), .int (nI i), .int (nI c)]) f54_66 rfl (nI_1 w) rfl rfl ?_
      refine k_iconst (v := 0) f54_69 rfl ?_
      refine k_istore (L' := [.ref 9, .retAddr k, .int (0), .int (nI (w + 1)), .int (0), .int (nI i), .int (nI c)]) f54_70 rfl rfl ?_
      refine k_goto f54_72 ?_
      refine k_iinc (w := nI (i + 1)) (L' := [.ref 9, .retAddr k, .int (0), .int (nI (w + 1)), .int (0), .int (nI (i + 1)), .int (nI c)]) f54_113 rfl (nI_1 i) rfl rfl ?_
      refine k_goto f54_116 ?_
      exact ih (i + 1) (w + 1) (some 0) _ (by omega) (by omega) (fun j hj => by cases hj; omega)
    · cases s with
      | none =>
        show zOk x (d + 4) 54 30 [.ref 9, .retAddr k, .int (0), .int (nI w), .int ((-1)), .int (nI i), u6] [] _ _
        refine k_iload f54_30 rfl ?_
        refine k_aloadx f54_32 rfl (by omega) ?_
        refine e_x (as := []) (rest := [.int (nI i)]) f54_33 (by omega) rfl rfl rfl rfl (s_slen hk) ?_
        refine k_ic_ge f54_36 (fun h_ => absurd h_ (nI_ge (by omega) (by omega))) (fun _ => ?_)
        refine k_aloadx f54_39 rfl (by omega) ?_
        refine k_iload f54_40 rfl ?_
        refine e_x (as := [.int (nI i)]) (rest := []) f54_42 (by omega) rfl rfl rfl rfl ((by have h := s_charAt (x := x) (d := d) (m := (I, J, R, G)) hk (show i < (sBk k).length by omega); rw [← ec] at h; exact h)) ?_
        refine k_istore (L' := [.ref 9, .retAddr k, .int (0), .int (nI w), .int ((-1)), .int (nI i), .int (nI c)]) f54_45 rfl rfl ?_
        refine k_iload f54_47 rfl ?_
        refine k_iconst (v := 32) f54_49 rfl ?_
        refine k_ic_ne f54_51 (fun _ => ?_) (fun h_ => absurd ((fun z => h32 ((nI_eq (b := 32) (by omega) (by omega)).mp z))) h_)
        refine k_iload f54_75 rfl ?_
        refine k_if_lt f54_77 (fun _ => ?_) (fun h_ => absurd (by decide) h_)
        refine k_iconst (v := (-1)) f54_110 rfl ?_
        refine k_istore (L' := [.ref 9, .retAddr k, .int (0), .int (nI w), .int ((-1)), .int (nI i), .int (nI c)]) f54_111 rfl rfl ?_
        refine k_iinc (w := nI (i + 1)) (L' := [.ref 9, .retAddr k, .int (0), .int (nI w), .int ((-1)), .int (nI (i + 1)), .int (nI c)]) f54_113 rfl (nI_1 i) rfl rfl ?_
        refine k_goto f54_116 ?_
        exact ih (i + 1) w none _ (by omega) (by omega) (fun j hj => by cases hj)
      | some j =>
        have hj := hs j rfl
        show zOk x (d + 4) 54 30 [.ref 9, .retAddr k, .int (0), .int (nI w), .int (nI j), .int (nI i), u6] [] _ _
        refine k_iload f54_30 rfl ?_
        refine k_aloadx f54_32 rfl (by omega) ?_
        refine e_x (as := []) (rest := [.int (nI i)]) f54_33 (by omega) rfl rfl rfl rfl (s_slen hk) ?_
        refine k_ic_ge f54_36 (fun h_ => absurd h_ (nI_ge (by omega) (by omega))) (fun _ => ?_)
        refine k_aloadx f54_39 rfl (by omega) ?_
        refine k_iload f54_40 rfl ?_
        refine e_x (as := [.int (nI i)]) (rest := []) f54_42 (by omega) rfl rfl rfl rfl ((by have h := s_charAt (x := x) (d := d) (m := (I, J, R, G)) hk (show i < (sBk k).length by omega); rw [← ec] at h; exact h)) ?_
        refine k_istore (L' := [.ref 9, .retAddr k, .int (0), .int (nI w), .int (nI j), .int (nI i), .int (nI c)]) f54_45 rfl rfl ?_
        refine k_iload f54_47 rfl ?_
        refine k_iconst (v := 32) f54_49 rfl ?_
        refine k_ic_ne f54_51 (fun _ => ?_) (fun h_ => absurd ((fun z => h32 ((nI_eq (b := 32) (by omega) (by omega)).mp z))) h_)
        refine k_iload f54_75 rfl ?_
        refine k_if_lt f54_77 (fun h_ => absurd h_ ((fun z => absurd ((nI_ltI (b := 0) (by omega) (by omega)).mp z) (by omega)))) (fun _ => ?_)
        refine k_iload f54_80 rfl ?_
        refine k_iload f54_82 rfl ?_
        refine k_ic_ge f54_83 (fun _ => ?_) (fun h_ => absurd (nI_le (a := 0) (by omega) (by omega)) h_)
        refine k_iconst (v := (-1)) f54_110 rfl ?_
        refine k_istore (L' := [.ref 9, .retAddr k, .int (0), .int (nI w), .int ((-1)), .int (nI i), .int (nI c)]) f54_111 rfl rfl ?_
        refine k_iinc (w := nI (i + 1)) (L' := [.ref 9, .retAddr k, .int (0), .int (nI w), .int ((-1)), .int (nI (i + 1)), .int (nI c)]) f54_113 rfl (nI_1 i) rfl rfl ?_
        refine k_goto f54_116 ?_
        exact ih (i + 1) w none _ (by omega) (by omega) (fun j hj => by cases hj)
theorem s_which {x : Nat × (Nat → Int32)} {d : Nat} {I : Nat → Nat → Int32} {J : Nat → Nat → Int64} {R : Nat → Nat → Option Nat} {G : zG} {b : Nat → Nat} {n k : Nat} {t : Sum Nat Nat} (hR : Rs R) (hS : Sh G) (hT : TP I b n) (hk : k < 6) (ht : CX I b n t) : zRn x (d + 4) 54 [.ref 9, .retAddr k] (I, J, R, G) (some (.int (nI (whT b n k t)))) (I, J, R, G) := by
  have l60 := sB_len hk
  cases t with
  | inl e =>
    show zOk x (d + 4) 54 0 [.ref 9, .retAddr k, zU, zU, zU, zU, zU] [] _ _
    refine k_aload f54_0 rfl ?_
    refine k_gI (w := 4) f54_1 hS.o9 rfl ht.1 ?_
    refine k_iconst (v := 1) f54_4 rfl ?_
    refine k_ic_ne f54_5 (fun _ => ?_) (fun h_ => absurd (by decide) h_)
    refine k_iconst (v := 0) f54_20 rfl ?_
    refine k_istore (L' := [.ref 9, .retAddr k, .int (0), zU, zU, zU, zU]) f54_21 rfl rfl ?_
    refine k_iconst (v := 1) f54_22 rfl ?_
    refine k_istore (L' := [.ref 9, .retAddr k, .int (0), .int (1), zU, zU, zU]) f54_23 rfl rfl ?_
    refine k_iconst (v := 0) f54_24 rfl ?_
    refine k_istore (L' := [.ref 9, .retAddr k, .int (0), .int (1), .int (0), zU, zU]) f54_25 rfl rfl ?_
    refine k_iconst (v := 0) f54_27 rfl ?_
    refine k_istore (L' := [.ref 9, .retAddr k, .int (0), .int (1), .int (0), .int (0), zU]) f54_28 rfl rfl ?_
    exact lp_which0 hR hS hk (sBk k).length 0 1 (some 0) _ (by omega) (by omega) (fun j hj => by cases hj; omega)
  | inr q =>
    have hq := ht.2.2.2.2.2.2.2
    have h400 := hT.1
    have k4 := kd_lt (b := b) (n := n) (q := q)
    by_cases h : kd b n q = 1
    · show zOk x (d + 4) 54 0 [.ref 9, .retAddr k, zU, zU, zU, zU, zU] [] _ _
      refine k_aload f54_0 rfl ?_
      refine k_gI (w := nI (kd b n q)) f54_1 hS.o9 rfl ht.2.2.1 ?_
      refine k_iconst (v := 1) f54_4 rfl ?_
      refine k_ic_ne f54_5 (fun h_ => absurd (congrArg nI h) h_) (fun _ => ?_)
      refine k_aload f54_8 rfl ?_
      refine k_gI (w := nI (wl b n q)) f54_9 hS.o9 rfl (ht.2.1.trans (congrArg nI (if_pos (kd_1.mp h)))) ?_
      refine k_aload f54_12 rfl ?_
      refine k_gI (w := nI q) f54_13 hS.o9 rfl ht.1 ?_
      refine k_isub f54_16 ?_
      rw [nI_sb (by have := (wl_le (b := b) hq).1; omega)]
      refine k_goto f54_17 ?_
      refine k_istore (L' := [.ref 9, .retAddr k, .int (nI (wl b n q - q)), zU, zU, zU, zU]) f54_21 rfl rfl ?_
      refine k_iconst (v := 1) f54_22 rfl ?_
      refine k_istore (L' := [.ref 9, .retAddr k, .int (nI (wl b n q - q)), .int (1), zU, zU, zU]) f54_23 rfl rfl ?_
      refine k_iconst (v := 0) f54_24 rfl ?_
      refine k_istore (L' := [.ref 9, .retAddr k, .int (nI (wl b n q - q)), .int (1), .int (0), zU, zU]) f54_25 rfl rfl ?_
      refine k_iconst (v := 0) f54_27 rfl ?_
      refine k_istore (L' := [.ref 9, .retAddr k, .int (nI (wl b n q - q)), .int (1), .int (0), .int (0), zU]) f54_28 rfl rfl ?_
      show zOk _ _ _ _ _ _ _ (fun v m => v = some (.int (nI (wwF (fun j => b (q + j)) (lnT b n q) ((sBk k).drop 0) 1 (some 0)))) ∧ m = (I, J, R, G))
      rw [show lnT b n q = wl b n q - q from if_pos h]
      exact lp_which hR hS hT hk ht.1 (by have := (wl_le (b := b) hq); omega) (sBk k).length 0 1 (some 0) _ (by omega) (by omega) (fun j hj => by cases hj; omega)
    · show zOk x (d + 4) 54 0 [.ref 9, .retAddr k, zU, zU, zU, zU, zU] [] _ _
      refine k_aload f54_0 rfl ?_
      refine k_gI (w := nI (kd b n q)) f54_1 hS.o9 rfl ht.2.2.1 ?_
      refine k_iconst (v := 1) f54_4 rfl ?_
      refine k_ic_ne f54_5 (fun _ => ?_) (fun h_ => absurd ((fun z => h ((nI_eq (b := 1) (by omega) (by omega)).mp z))) h_)
      refine k_iconst (v := 0) f54_20 rfl ?_
      refine k_istore (L' := [.ref 9, .retAddr k, .int (0), zU, zU, zU, zU]) f54_21 rfl rfl ?_
      refine k_iconst (v := 1) f54_22 rfl ?_
      refine k_istore (L' := [.ref 9, .retAddr k, .int (0), .int (1), zU, zU, zU]) f54_23 rfl rfl ?_
      refine k_iconst (v := 0) f54_24 rfl ?_
      refine k_istore (L' := [.ref 9, .retAddr k, .int (0), .int (1), .int (0), zU, zU]) f54_25 rfl rfl ?_
      refine k_iconst (v := 0) f54_27 rfl ?_
      refine k_istore (L' := [.ref 9, .retAddr k, .int (0), .int (1), .int (0), .int (0), zU]) f54_28 rfl rfl ?_
      show zOk _ _ _ _ _ _ _ (fun v m => v = some (.int (nI (wwF (fun j => b (q + j)) (lnT b n q) ((sBk k).drop 0) 1 (some 0)))) ∧ m = (I, J, R, G))
      rw [show lnT b n q = 0 from if_neg h]
      exact lp_which (L := 0) hR hS hT hk ht.1 (by omega) (sBk k).length 0 1 (some 0) _ (by omega) (by omega) (fun j hj => by cases hj; omega)
theorem tk_iff {b : Nat → Nat} {n q : Nat} {w : List Nat} : tkB b n q w = true ↔ isL b n q = true ∧ wl b n q = q + w.length ∧ ∀ i, i < w.length → b (q + i) = w.getD i 0 := decide_eq_true_iff
theorem lp_isW {x : Nat × (Nat → Int32)} {d : Nat} {I : Nat → Nat → Int32} {J : Nat → Nat → Int64} {R : Nat → Nat → Option Nat} {G : zG} {b : Nat → Nat} {n k q : Nat} (hR : Rs R) (hS : Sh G) (hT : TP I b n) (hk : k < 6) (hq : I 9 2 = nI q) (hL : isL b n q = true) (he : wl b n q = q + (sBk k).length) : ∀ (f i : Nat), i + f = (sBk k).length → (∀ j, j < i → b (q + j) = (sBk k).getD j 0) → zOk x (d + 4) 53 28 [.ref 9, .retAddr k, .int (nI i)] [] (I, J, R, G) (fun v m => v = some (.int (bI (tkB b n q (sBk k) = true))) ∧ m = (I, J, R, G)) := by
  have h400 := hT.1
  have l60 := sB_len hk
  have hw := (wl_le (b := b) (n := n) (p := q) (by have := isL_lt hL; omega)).2
  intro f
  induction f with
  | zero =>
    intro i hi hs
    refine k_iload f53_28 rfl ?_
    refine k_aloadx f53_29 rfl (by omega) ?_
    refine e_x (as := []) (rest := [.int (nI i)]) f53_30 (by omega) rfl rfl rfl rfl (s_slen hk) ?_
    refine k_ic_ge f53_33 (fun _ => ?_) (fun h_ => absurd (nI_le (by omega) (by omega)) h_)
    refine k_iconst (v := 1) f53_63 rfl ?_
    exact k_iret f53_64 (by decide) ⟨bI_t (tk_iff.mpr ⟨hL, he, fun j hj => hs j (by omega)⟩), rfl⟩
  | succ f ih =>
    intro i hi hs
    have b8 := (hT.2 (q + i) (by omega)).1
    have c8 := (sB_at hk (show i < (sBk k).length by omega)).1
    by_cases hb : b (q + i) = (sBk k).getD i 0
    · refine k_iload f53_28 rfl ?_
      refine k_aloadx f53_29 rfl (by omega) ?_
      refine e_x (as := []) (rest := [.int (nI i)]) f53_30 (by omega) rfl rfl rfl rfl (s_slen hk) ?_
      refine k_ic_ge f53_33 (fun h_ => absurd h_ (nI_ge (by omega) (by omega))) (fun _ => ?_)
      refine k_aload f53_36 rfl ?_
      refine k_getr (q := 10) f53_37 hS.o9 rfl hR.r9_0 ?_
      refine k_aload f53_40 rfl ?_
      refine k_gI (w := nI q) f53_41 hS.o9 rfl hq ?_
      refine k_iload f53_44 rfl ?_
      refine k_iadd f53_45 ?_
      rw [nI_add]
      refine k_ca (k := (q + i)) (w := nI (b (q + i))) f53_46 hS.a10 rfl (by omega) (by decide) (hT.2 (q + i) (by omega)).2.1 ?_
      refine k_aloadx f53_47 rfl (by omega) ?_
      refine k_iload f53_48 rfl ?_
      refine e_x (as := [.int (nI i)]) (rest := [.int (nI (b (q + i)))]) f53_49 (by omega) rfl rfl rfl rfl (s_charAt hk (by omega)) ?_
      refine k_ic_eq f53_52 (fun _ => ?_) (fun h_ => absurd (congrArg nI hb) h_)
      refine k_iinc (w := nI (i + 1)) (L' := [.ref 9, .retAddr k, .int (nI (i + 1))]) f53_57 rfl (nI_1 i) rfl rfl ?_
      refine k_goto f53_60 ?_
      exact ih (i + 1) (by omega) (fun j hj => by
        by_cases e : j = i
        · rw [e]; exact hb
        · exact hs j (by omega))
    · refine k_iload f53_28 rfl ?_
      refine k_aloadx f53_29 rfl (by omega) ?_
      refine e_x (as := []) (rest := [.int (nI i)]) f53_30 (by omega) rfl rfl rfl rfl (s_slen hk) ?_
      refine k_ic_ge f53_33 (fun h_ => absurd h_ (nI_ge (by omega) (by omega))) (fun _ => ?_)
      refine k_aload f53_36 rfl ?_
      refine k_getr (q := 10) f53_37 hS.o9 rfl hR.r9_0 ?_
      refine k_aload f53_40 rfl ?_
      refine k_gI (w := nI q) f53_41 hS.o9 rfl hq ?_
      refine k_iload f53_44 rfl ?_
      refine k_iadd f53_45 ?_
      rw [nI_add]
      refine k_ca (k := (q + i)) (w := nI (b (q + i))) f53_46 hS.a10 rfl (by omega) (by decide) (hT.2 (q + i) (by omega)).2.1 ?_
      refine k_aloadx f53_47 rfl (by omega) ?_
      refine k_iload f53_48 rfl ?_
      refine e_x (as := [.int (nI i)]) (rest := [.int (nI (b (q + i)))]) f53_49 (by omega) rfl rfl rfl rfl (s_charAt hk (by omega)) ?_
      refine k_ic_eq f53_52 (fun h_ => absurd h_ ((fun z => hb ((nI_eq (by omega) (by omega)).mp z)))) (fun _ => ?_)
      refine k_iconst (v := 0) f53_55 rfl ?_
      exact k_iret f53_56 (by decide) ⟨bI_f (fun z => hb ((tk_iff.mp z).2.2 i (by omega))), rfl⟩
theorem s_isWd {x : Nat × (Nat → Int32)} {d : Nat} {I : Nat → Nat → Int32} {J : Nat → Nat → Int64} {R : Nat → Nat → Option Nat} {G : zG} {b : Nat → Nat} {n k : Nat} {t : Sum Nat Nat} (hR : Rs R) (hS : Sh G) (hT : TP I b n) (hk : k < 6) (ht : CX I b n t) : zRn x (d + 4) 53 [.ref 9, .retAddr k] (I, J, R, G) (some (.int (bI (wdT b n k t = true)))) (I, J, R, G) := by
  have l60 := sB_len hk
  cases t with
  | inl e =>
    show zOk x (d + 4) 53 0 [.ref 9, .retAddr k, zU] [] _ _
    refine k_aload f53_0 rfl ?_
    refine k_gI (w := 4) f53_1 hS.o9 rfl ht.1 ?_
    refine k_iconst (v := 1) f53_4 rfl ?_
    refine k_ic_ne f53_5 (fun _ => ?_) (fun h_ => absurd (by decide) h_)
    refine k_iconst (v := 0) f53_24 rfl ?_
    exact k_iret f53_25 (by decide) ⟨bI_f (fun h => by cases h), rfl⟩
  | inr q =>
    have hq := ht.2.2.2.2.2.2.2
    have h400 := hT.1
    have k4 := kd_lt (b := b) (n := n) (q := q)
    by_cases h : kd b n q = 1
    · have w1 := wl_le (b := b) hq
      by_cases he : wl b n q - q = (sBk k).length
      · show zOk x (d + 4) 53 0 [.ref 9, .retAddr k, zU] [] _ _
        refine k_aload f53_0 rfl ?_
        refine k_gI (w := nI (kd b n q)) f53_1 hS.o9 rfl ht.2.2.1 ?_
        refine k_iconst (v := 1) f53_4 rfl ?_
        refine k_ic_ne f53_5 (fun h_ => absurd (congrArg nI h) h_) (fun _ => ?_)
        refine k_aload f53_8 rfl ?_
        refine k_gI (w := nI (wl b n q)) f53_9 hS.o9 rfl (ht.2.1.trans (congrArg nI (if_pos (kd_1.mp h)))) ?_
        refine k_aload f53_12 rfl ?_
        refine k_gI (w := nI q) f53_13 hS.o9 rfl ht.1 ?_
        refine k_isub f53_16 ?_
        rw [nI_sb (by have := (wl_le (b := b) hq).1; omega)]
        refine k_aloadx f53_17 rfl (by omega) ?_
        refine e_x (as := []) (rest := [.int (nI (wl b n q - q))]) f53_18 (by omega) rfl rfl rfl rfl (s_slen hk) ?_
        refine k_ic_eq f53_21 (fun _ => ?_) (fun h_ => absurd (congrArg nI he) h_)
        refine k_iconst (v := 0) f53_26 rfl ?_
        refine k_istore (L' := [.ref 9, .retAddr k, .int (0)]) f53_27 rfl rfl ?_
        exact lp_isW hR hS hT hk ht.1 (kd_1.mp h) (by omega) (sBk k).length 0 (by omega) (fun j hj => absurd hj (Nat.not_lt_zero _))
      · show zOk x (d + 4) 53 0 [.ref 9, .retAddr k, zU] [] _ _
        refine k_aload f53_0 rfl ?_
        refine k_gI (w := nI (kd b n q)) f53_1 hS.o9 rfl ht.2.2.1 ?_
        refine k_iconst (v := 1) f53_4 rfl ?_
        refine k_ic_ne f53_5 (fun h_ => absurd (congrArg nI h) h_) (fun _ => ?_)
        refine k_aload f53_8 rfl ?_
        refine k_gI (w := nI (wl b n q)) f53_9 hS.o9 rfl (ht.2.1.trans (congrArg nI (if_pos (kd_1.mp h)))) ?_
        refine k_aload f53_12 rfl ?_
        refine k_gI (w := nI q) f53_13 hS.o9 rfl ht.1 ?_
        refine k_isub f53_16 ?_
        rw [nI_sb (by have := (wl_le (b := b) hq).1; omega)]
        refine k_aloadx f53_17 rfl (by omega) ?_
        refine e_x (as := []) (rest := [.int (nI (wl b n q - q))]) f53_18 (by omega) rfl rfl rfl rfl (s_slen hk) ?_
        refine k_ic_eq f53_21 (fun h_ => absurd h_ ((fun z => he ((nI_eq (by omega) (by omega)).mp z)))) (fun _ => ?_)
        refine k_iconst (v := 0) f53_24 rfl ?_
        exact k_iret f53_25 (by decide) ⟨bI_f (fun z => he (by have := (tk_iff.mp z).2.1; omega)), rfl⟩
    · show zOk x (d + 4) 53 0 [.ref 9, .retAddr k, zU] [] _ _
      refine k_aload f53_0 rfl ?_
      refine k_gI (w := nI (kd b n q)) f53_1 hS.o9 rfl ht.2.2.1 ?_
      refine k_iconst (v := 1) f53_4 rfl ?_
      refine k_ic_ne f53_5 (fun _ => ?_) (fun h_ => absurd ((fun z => h ((nI_eq (b := 1) (by omega) (by omega)).mp z))) h_)
      refine k_iconst (v := 0) f53_24 rfl ?_
      exact k_iret f53_25 (by decide) ⟨bI_f (fun z => h (kd_1.mpr (tk_iff.mp z).1)), rfl⟩
theorem q_begin {x : Nat × (Nat → Int32)} {d : Nat} {I : Nat → Nat → Int32} {J : Nat → Nat → Int64} {R : Nat → Nat → Option Nat} {G : zG} {b : Nat → Nat} {n : Nat} (hR : Rs R) (hS : Sh G) (hT : TP I b n) (hn : I 9 1 = nI n) : zOk x (d + 1) 48 0 [.ref 9] [] (I, J, R, G) (fun v m => v = none ∧ ∃ I', m = (I', J, R, G) ∧ CX I' b n (.inr (bk b n 0)) ∧ F9 I I') := by
  refine k_aload f48_0 rfl ?_
  refine k_iconst (v := 0) f48_1 rfl ?_
  refine k_putI f48_2 hS.o9 rfl ?_
  refine k_aload f48_5 rfl ?_
  refine k_iconst (v := 0) f48_6 rfl ?_
  refine k_putI f48_7 hS.o9 rfl ?_
  refine k_aload f48_10 rfl ?_
  refine k_iconst (v := 0) f48_11 rfl ?_
  refine k_putI f48_12 hS.o9 rfl ?_
  have f1 : F9 I (z_u (z_u (z_u I 9 3 0) 9 7 0) 9 4 0) := fun p k h => by rw [z_u_p _ _ _ _ h, z_u_p _ _ _ _ h, z_u_p _ _ _ _ h]
  refine k_aload f48_15 rfl ?_
  refine k_callv (as := []) (rest := []) f48_16 hS.o9 rfl rfl rfl rfl ((s_next0 (p := 0) hR hS (F9.tp f1 hT) (Eq.trans (z_u_k _ _ _ (by decide)) (Eq.trans (z_u_k _ _ _ (by decide)) (Eq.trans (z_u_k _ _ _ (by decide)) hn))) (by rw [z_u_same]; decide) (Eq.trans (z_u_k _ _ _ (by decide)) (Eq.trans (z_u_k _ _ _ (by decide)) (z_u_same _ _ _ _))) (by omega) (Eq.trans (z_u_k _ _ _ (by decide)) (z_u_same _ _ _ _)))) ?_
  rintro _ _ ⟨rfl, I', rfl, h1, h2⟩
  exact k_vret f48_19 ⟨rfl, I', rfl, h1, f1.trans h2⟩
