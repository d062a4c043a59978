/-! WHAT IS JOINED in a TEST, on both sides. -/
theorem lg_eq (a b : Int64) : lg_cmp a b = 0 ↔ a = b := by
  unfold lg_cmp
  rcases lg_3 a b with h | h | h
  · rw [if_neg fun q => lg_ir h q, if_neg fun q => Int64.lt_irrefl (q ▸ h)]
    exact ⟨fun q => absurd q (by decide), fun q => absurd h (q ▸ Int64.lt_irrefl)⟩
  · subst h
    rw [if_neg Int64.lt_irrefl, if_pos rfl]
    exact ⟨fun _ => rfl, fun _ => rfl⟩
  · rw [if_pos h]
    exact ⟨fun q => absurd q (by decide), fun q => absurd h (q ▸ Int64.lt_irrefl)⟩
theorem j_lt0 {a b : Int64} (g : 0 ≤ lg_cmp a b) : ¬ a < b := fun q => Int32.not_lt.mpr g ((lg_lt a b).mpr q)
theorem j_lt1 {a b : Int64} (g : ¬ 0 ≤ lg_cmp a b) : a < b := (lg_lt a b).mp (Int32.not_le.mp g)
theorem j_le0 {a b : Int64} (g : 0 < lg_cmp a b) : ¬ a ≤ b := Int64.not_le.mpr ((lg_gt a b).mp g)
theorem j_le1 {a b : Int64} (g : ¬ 0 < lg_cmp a b) : a ≤ b := Int64.not_lt.mp fun q => g ((lg_gt a b).mpr q)
theorem j_ge0 {a b : Int64} (g : lg_cmp a b < 0) : ¬ b ≤ a := Int64.not_le.mpr ((lg_lt a b).mp g)
theorem j_ge1 {a b : Int64} (g : ¬ lg_cmp a b < 0) : b ≤ a := Int64.not_lt.mp fun q => g ((lg_lt a b).mpr q)
theorem j_gt0 {a b : Int64} (g : lg_cmp a b ≤ 0) : ¬ b < a := fun q => Int32.not_lt.mpr g ((lg_gt a b).mpr q)
theorem j_gt1 {a b : Int64} (g : ¬ lg_cmp a b ≤ 0) : b < a := (lg_gt a b).mp (Int32.not_le.mp g)
theorem j_eq0 {a b : Int64} (g : ¬ lg_cmp a b = 0) : ¬ a = b := fun q => g ((lg_eq a b).mpr q)
theorem j_eq1 {a b : Int64} (g : lg_cmp a b = 0) : a = b := (lg_eq a b).mp g
theorem swC (e : Int32) : (e.toInt < -19 ∨ -10 < e.toInt) ∨ e = -19 ∨ e = -18 ∨ e = -17 ∨ e = -16 ∨ e = -15 ∨ e = -14 ∨ e = -13 ∨ e = -12 ∨ e = -11 ∨ e = -10 := by
  by_cases h : e.toInt < -19 ∨ -10 < e.toInt
  · exact Or.inl h
  · right
    simp only [← Int32.toInt_inj]
    have e1 : (-19 : Int32).toInt = -19 := by decide
    have e2 : (-18 : Int32).toInt = -18 := by decide
    have e3 : (-17 : Int32).toInt = -17 := by decide
    have e4 : (-16 : Int32).toInt = -16 := by decide
    have e5 : (-15 : Int32).toInt = -15 := by decide
    have e6 : (-14 : Int32).toInt = -14 := by decide
    have e7 : (-13 : Int32).toInt = -13 := by decide
    have e8 : (-12 : Int32).toInt = -12 := by decide
    have e9 : (-11 : Int32).toInt = -11 := by decide
    have e10 : (-10 : Int32).toInt = -10 := by decide
    rw [e1, e2, e3, e4, e5, e6, e7, e8, e9, e10]
    omega
theorem swD (e : Int32) : (e.toInt < 2 ∨ 12 < e.toInt) ∨ e = 2 ∨ e = 3 ∨ e = 4 ∨ e = 5 ∨ e = 6 ∨ e = 7 ∨ e = 8 ∨ e = 9 ∨ e = 10 ∨ e = 11 ∨ e = 12 := by
  by_cases h : e.toInt < 2 ∨ 12 < e.toInt
  · exact Or.inl h
  · right
    simp only [← Int32.toInt_inj]
    have e1 : (2 : Int32).toInt = 2 := by decide
    have e2 : (3 : Int32).toInt = 3 := by decide
    have e3 : (4 : Int32).toInt = 4 := by decide
    have e4 : (5 : Int32).toInt = 5 := by decide
    have e5 : (6 : Int32).toInt = 6 := by decide
    have e6 : (7 : Int32).toInt = 7 := by decide
    have e7 : (8 : Int32).toInt = 8 := by decide
    have e8 : (9 : Int32).toInt = 9 := by decide
    have e9 : (10 : Int32).toInt = 10 := by decide
    have e10 : (11 : Int32).toInt = 11 := by decide
    have e11 : (12 : Int32).toInt = 12 := by decide
    rw [e1, e2, e3, e4, e5, e6, e7, e8, e9, e10, e11]
    omega
theorem jnC_o {e : Int32} (h : e.toInt < -19 ∨ -10 < e.toInt) (a b : Int64) : a ||| b = jnC e a b := by
  have n : ∀ v : Int32, -19 ≤ v.toInt → v.toInt ≤ -10 → ¬ e = v := fun v h1 h2 q => by
    subst q
    omega
  unfold jnC
  rw [if_neg (n _ (by decide) (by decide)), if_neg (n _ (by decide) (by decide)), if_neg (n _ (by decide) (by decide)), if_neg (n _ (by decide) (by decide)), if_neg (n _ (by decide) (by decide)), if_neg (n _ (by decide) (by decide)), if_neg (n _ (by decide) (by decide)), if_neg (n _ (by decide) (by decide)), if_neg (n _ (by decide) (by decide)), if_neg (n _ (by decide) (by decide))]
theorem jnD_o {e : Int32} (h : e.toInt < 2 ∨ 12 < e.toInt) (a b : Int64) : a ||| b = jnD e a b := by
  have n : ∀ v : Int32, 2 ≤ v.toInt → v.toInt ≤ 12 → ¬ e = v := fun v h1 h2 q => by
    subst q
    omega
  unfold jnD
  rw [if_neg (n _ (by decide) (by decide)), if_neg (n _ (by decide) (by decide)), if_neg (n _ (by decide) (by decide)), if_neg (n _ (by decide) (by decide)), if_neg (n _ (by decide) (by decide)), if_neg (n _ (by decide) (by decide)), if_neg (n _ (by decide) (by decide)), if_neg (n _ (by decide) (by decide)), if_neg (n _ (by decide) (by decide)), if_neg (n _ (by decide) (by decide))]
theorem s_joined {x : Nat × (Nat → Int32)} {d : Nat} {I : Nat → Nat → Int32} {J : Nat → Nat → Int64} {R : Nat → Nat → Option Nat} {G : zG} (e : Int32) (a b : Int64) : zRn x d 7 [.int (e), .long (a), .long (b)] (I, J, R, G) (some (.long (jnC e a b))) (I, J, R, G) := by
  rcases swC e with ho | rfl | rfl | rfl | rfl | rfl | rfl | rfl | rfl | rfl | rfl
  · show zOk x d 7 0 [.int (e), .long (a), zU, .long (b), zU] [] _ _
    refine k_iload f7_0 rfl ?_
    refine k_tsout f7_1 ho ?_
    refine k_lload f7_146 rfl ?_
    refine k_lload f7_147 rfl ?_
    refine k_lor f7_148 ?_
    exact k_lret f7_149 ⟨congrArg (fun t => some (Value.long t)) (jnC_o ho a b), rfl⟩
  · show zOk x d 7 0 [.int ((-19)), .long (a), zU, .long (b), zU] [] _ _
    refine k_iload f7_0 rfl ?_
    refine k_tsin (t := 142) f7_1 (by decide) (by decide) rfl rfl ?_
    refine k_lload f7_142 rfl ?_
    refine k_lload f7_143 rfl ?_
    refine k_land f7_144 ?_
    exact k_lret f7_145 ⟨congrArg (fun t => some (Value.long t)) ((by simp [jnC])), rfl⟩
  · show zOk x d 7 0 [.int ((-18)), .long (a), zU, .long (b), zU] [] _ _
    refine k_iload f7_0 rfl ?_
    refine k_tsin (t := 130) f7_1 (by decide) (by decide) rfl rfl ?_
    refine k_lload f7_130 rfl ?_
    refine k_lload f7_131 rfl ?_
    refine k_lcmp f7_132 ?_
    refine k_if_le f7_133 (fun g0 => ?_) (fun g0 => ?_)
    · refine k_lconst (v := 0) f7_140 rfl ?_
      exact k_lret f7_141 ⟨congrArg (fun t => some (Value.long t)) ((by rw [show jnC (-18) a b = if b < a then 1 else 0 by simp [jnC], if_neg (j_gt0 g0)])), rfl⟩
    · refine k_lconst (v := 1) f7_136 rfl ?_
      refine k_goto f7_137 ?_
      exact k_lret f7_141 ⟨congrArg (fun t => some (Value.long t)) ((by rw [show jnC (-18) a b = if b < a then 1 else 0 by simp [jnC], if_pos (j_gt1 g0)])), rfl⟩
  · show zOk x d 7 0 [.int ((-17)), .long (a), zU, .long (b), zU] [] _ _
    refine k_iload f7_0 rfl ?_
    refine k_tsin (t := 118) f7_1 (by decide) (by decide) rfl rfl ?_
    refine k_lload f7_118 rfl ?_
    refine k_lload f7_119 rfl ?_
    refine k_lcmp f7_120 ?_
    refine k_if_lt f7_121 (fun g0 => ?_) (fun g0 => ?_)
    · refine k_lconst (v := 0) f7_128 rfl ?_
      exact k_lret f7_129 ⟨congrArg (fun t => some (Value.long t)) ((by rw [show jnC (-17) a b = if b ≤ a then 1 else 0 by simp [jnC], if_neg (j_ge0 g0)])), rfl⟩
    · refine k_lconst (v := 1) f7_124 rfl ?_
      refine k_goto f7_125 ?_
      exact k_lret f7_129 ⟨congrArg (fun t => some (Value.long t)) ((by rw [show jnC (-17) a b = if b ≤ a then 1 else 0 by simp [jnC], if_pos (j_ge1 g0)])), rfl⟩
  · show zOk x d 7 0 [.int ((-16)), .long (a), zU, .long (b), zU] [] _ _
    refine k_iload f7_0 rfl ?_
    refine k_tsin (t := 106) f7_1 (by decide) (by decide) rfl rfl ?_
    refine k_lload f7_106 rfl ?_
    refine k_lload f7_107 rfl ?_
    refine k_lcmp f7_108 ?_
    refine k_if_ne f7_109 (fun g0 => ?_) (fun g0 => ?_)
    · refine k_lconst (v := 0) f7_116 rfl ?_
      exact k_lret f7_117 ⟨congrArg (fun t => some (Value.long t)) ((by rw [show jnC (-16) a b = if a = b then 1 else 0 by simp [jnC], if_neg (j_eq0 g0)])), rfl⟩
    · refine k_lconst (v := 1) f7_112 rfl ?_
      refine k_goto f7_113 ?_
      exact k_lret f7_117 ⟨congrArg (fun t => some (Value.long t)) ((by rw [show jnC (-16) a b = if a = b then 1 else 0 by simp [jnC], if_pos (j_eq1 (Classical.not_not.mp g0))])), rfl⟩
  · show zOk x d 7 0 [.int ((-15)), .long (a), zU, .long (b), zU] [] _ _
    refine k_iload f7_0 rfl ?_
    refine k_tsin (t := 94) f7_1 (by decide) (by decide) rfl rfl ?_
    refine k_lload f7_94 rfl ?_
    refine k_lload f7_95 rfl ?_
    refine k_lcmp f7_96 ?_
    refine k_if_gt f7_97 (fun g0 => ?_) (fun g0 => ?_)
    · refine k_lconst (v := 0) f7_104 rfl ?_
      exact k_lret f7_105 ⟨congrArg (fun t => some (Value.long t)) ((by rw [show jnC (-15) a b = if a ≤ b then 1 else 0 by simp [jnC], if_neg (j_le0 g0)])), rfl⟩
    · refine k_lconst (v := 1) f7_100 rfl ?_
      refine k_goto f7_101 ?_
      exact k_lret f7_105 ⟨congrArg (fun t => some (Value.long t)) ((by rw [show jnC (-15) a b = if a ≤ b then 1 else 0 by simp [jnC], if_pos (j_le1 g0)])), rfl⟩
  · show zOk x d 7 0 [.int ((-14)), .long (a), zU, .long (b), zU] [] _ _
    refine k_iload f7_0 rfl ?_
    refine k_tsin (t := 82) f7_1 (by decide) (by decide) rfl rfl ?_
    refine k_lload f7_82 rfl ?_
    refine k_lload f7_83 rfl ?_
    refine k_lcmp f7_84 ?_
    refine k_if_ge f7_85 (fun g0 => ?_) (fun g0 => ?_)
    · refine k_lconst (v := 0) f7_92 rfl ?_
      exact k_lret f7_93 ⟨congrArg (fun t => some (Value.long t)) ((by rw [show jnC (-14) a b = if a < b then 1 else 0 by simp [jnC], if_neg (j_lt0 g0)])), rfl⟩
    · refine k_lconst (v := 1) f7_88 rfl ?_
      refine k_goto f7_89 ?_
      exact k_lret f7_93 ⟨congrArg (fun t => some (Value.long t)) ((by rw [show jnC (-14) a b = if a < b then 1 else 0 by simp [jnC], if_pos (j_lt1 g0)])), rfl⟩
  · show zOk x d 7 0 [.int ((-13)), .long (a), zU, .long (b), zU] [] _ _
    refine k_iload f7_0 rfl ?_
    refine k_tsin (t := 68) f7_1 (by decide) (by decide) rfl rfl ?_
    refine k_lload f7_68 rfl ?_
    refine k_lconst (v := 0) f7_69 rfl ?_
    refine k_lcmp f7_70 ?_
    refine k_if_ne f7_71 (fun g0 => ?_) (fun g0 => ?_)
    · refine k_lload f7_78 rfl ?_
      refine k_lload f7_79 rfl ?_
      refine k_ldiv f7_80 (j_eq0 g0) ?_
      exact k_lret f7_81 ⟨congrArg (fun t => some (Value.long t)) ((by rw [show jnC (-13) a b = if b = 0 then 0 else a / b by simp [jnC], if_neg (j_eq0 g0)])), rfl⟩
    · refine k_lconst (v := 0) f7_74 rfl ?_
      refine k_goto f7_75 ?_
      exact k_lret f7_81 ⟨congrArg (fun t => some (Value.long t)) ((by rw [show jnC (-13) a b = if b = 0 then 0 else a / b by simp [jnC], if_pos (j_eq1 (Classical.not_not.mp g0))])), rfl⟩
  · show zOk x d 7 0 [.int ((-12)), .long (a), zU, .long (b), zU] [] _ _
    refine k_iload f7_0 rfl ?_
    refine k_tsin (t := 64) f7_1 (by decide) (by decide) rfl rfl ?_
    refine k_lload f7_64 rfl ?_
    refine k_lload f7_65 rfl ?_
    refine k_lmul f7_66 ?_
    exact k_lret f7_67 ⟨congrArg (fun t => some (Value.long t)) ((by simp [jnC])), rfl⟩
  · show zOk x d 7 0 [.int ((-11)), .long (a), zU, .long (b), zU] [] _ _
    refine k_iload f7_0 rfl ?_
    refine k_tsin (t := 60) f7_1 (by decide) (by decide) rfl rfl ?_
    refine k_lload f7_60 rfl ?_
    refine k_lload f7_61 rfl ?_
    refine k_lsub f7_62 ?_
    exact k_lret f7_63 ⟨congrArg (fun t => some (Value.long t)) ((by simp [jnC])), rfl⟩
  · show zOk x d 7 0 [.int ((-10)), .long (a), zU, .long (b), zU] [] _ _
    refine k_iload f7_0 rfl ?_
    refine k_tsin (t := 56) f7_1 (by decide) (by decide) rfl rfl ?_
    refine k_lload f7_56 rfl ?_
    refine k_lload f7_57 rfl ?_
    refine k_ladd f7_58 ?_
    exact k_lret f7_59 ⟨congrArg (fun t => some (Value.long t)) ((by simp [jnC])), rfl⟩
theorem s_one {x : Nat × (Nat → Int32)} {d : Nat} {I : Nat → Nat → Int32} {J : Nat → Nat → Int64} {R : Nat → Nat → Option Nat} {G : zG} (e : Int32) (a b : Int64) : zRn x d 151 [.int (e), .long (a), .long (b)] (I, J, R, G) (some (.long (jnD e a b))) (I, J, R, G) := by
  rcases swD e with ho | rfl | rfl | rfl | rfl | rfl | rfl | rfl | rfl | rfl | rfl | rfl
  · show zOk x d 151 0 [.int (e), .long (a), zU, .long (b), zU] [] _ _
    refine k_iload f151_0 rfl ?_
    refine k_tsout f151_1 ho ?_
    refine k_lload f151_150 rfl ?_
    refine k_lload f151_151 rfl ?_
    refine k_lor f151_152 ?_
    exact k_lret f151_153 ⟨congrArg (fun t => some (Value.long t)) (jnD_o ho a b), rfl⟩
  · show zOk x d 151 0 [.int (2), .long (a), zU, .long (b), zU] [] _ _
    refine k_iload f151_0 rfl ?_
    refine k_tsin (t := 60) f151_1 (by decide) (by decide) rfl rfl ?_
    refine k_lload f151_60 rfl ?_
    refine k_lload f151_61 rfl ?_
    refine k_ladd f151_62 ?_
    exact k_lret f151_63 ⟨congrArg (fun t => some (Value.long t)) ((by simp [jnD])), rfl⟩
  · show zOk x d 151 0 [.int (3), .long (a), zU, .long (b), zU] [] _ _
    refine k_iload f151_0 rfl ?_
    refine k_tsin (t := 64) f151_1 (by decide) (by decide) rfl rfl ?_
    refine k_lload f151_64 rfl ?_
    refine k_lload f151_65 rfl ?_
    refine k_lsub f151_66 ?_
    exact k_lret f151_67 ⟨congrArg (fun t => some (Value.long t)) ((by simp [jnD])), rfl⟩
  · show zOk x d 151 0 [.int (4), .long (a), zU, .long (b), zU] [] _ _
    refine k_iload f151_0 rfl ?_
    refine k_tsin (t := 68) f151_1 (by decide) (by decide) rfl rfl ?_
    refine k_lload f151_68 rfl ?_
    refine k_lload f151_69 rfl ?_
    refine k_lmul f151_70 ?_
    exact k_lret f151_71 ⟨congrArg (fun t => some (Value.long t)) ((by simp [jnD])), rfl⟩
  · show zOk x d 151 0 [.int (5), .long (a), zU, .long (b), zU] [] _ _
    refine k_iload f151_0 rfl ?_
    refine k_tsin (t := 72) f151_1 (by decide) (by decide) rfl rfl ?_
    refine k_lload f151_72 rfl ?_
    refine k_lconst (v := 0) f151_73 rfl ?_
    refine k_lcmp f151_74 ?_
    refine k_if_ne f151_75 (fun g0 => ?_) (fun g0 => ?_)
    · refine k_lload f151_82 rfl ?_
      refine k_lload f151_83 rfl ?_
      refine k_ldiv f151_84 (j_eq0 g0) ?_
      exact k_lret f151_85 ⟨congrArg (fun t => some (Value.long t)) ((by rw [show jnD 5 a b = if b = 0 then 0 else a / b by simp [jnD], if_neg (j_eq0 g0)])), rfl⟩
    · refine k_lconst (v := 0) f151_78 rfl ?_
      refine k_goto f151_79 ?_
      exact k_lret f151_85 ⟨congrArg (fun t => some (Value.long t)) ((by rw [show jnD 5 a b = if b = 0 then 0 else a / b by simp [jnD], if_pos (j_eq1 (Classical.not_not.mp g0))])), rfl⟩
  · show zOk x d 151 0 [.int (6), .long (a), zU, .long (b), zU] [] _ _
    refine k_iload f151_0 rfl ?_
    refine k_tsin (t := 86) f151_1 (by decide) (by decide) rfl rfl ?_
    refine k_lload f151_86 rfl ?_
    refine k_lload f151_87 rfl ?_
    refine k_lcmp f151_88 ?_
    refine k_if_ge f151_89 (fun g0 => ?_) (fun g0 => ?_)
    · refine k_lconst (v := 0) f151_96 rfl ?_
      exact k_lret f151_97 ⟨congrArg (fun t => some (Value.long t)) ((by rw [show jnD 6 a b = if a < b then 1 else 0 by simp [jnD], if_neg (j_lt0 g0)])), rfl⟩
    · refine k_lconst (v := 1) f151_92 rfl ?_
      refine k_goto f151_93 ?_
      exact k_lret f151_97 ⟨congrArg (fun t => some (Value.long t)) ((by rw [show jnD 6 a b = if a < b then 1 else 0 by simp [jnD], if_pos (j_lt1 g0)])), rfl⟩
  · show zOk x d 151 0 [.int (7), .long (a), zU, .long (b), zU] [] _ _
    refine k_iload f151_0 rfl ?_
    refine k_tsin (t := 98) f151_1 (by decide) (by decide) rfl rfl ?_
    refine k_lload f151_98 rfl ?_
    refine k_lload f151_99 rfl ?_
    refine k_lcmp f151_100 ?_
    refine k_if_gt f151_101 (fun g0 => ?_) (fun g0 => ?_)
    · refine k_lconst (v := 0) f151_108 rfl ?_
      exact k_lret f151_109 ⟨congrArg (fun t => some (Value.long t)) ((by rw [show jnD 7 a b = if a ≤ b then 1 else 0 by simp [jnD], if_neg (j_le0 g0)])), rfl⟩
    · refine k_lconst (v := 1) f151_104 rfl ?_
      refine k_goto f151_105 ?_
      exact k_lret f151_109 ⟨congrArg (fun t => some (Value.long t)) ((by rw [show jnD 7 a b = if a ≤ b then 1 else 0 by simp [jnD], if_pos (j_le1 g0)])), rfl⟩
  · show zOk x d 151 0 [.int (8), .long (a), zU, .long (b), zU] [] _ _
    refine k_iload f151_0 rfl ?_
    refine k_tsin (t := 110) f151_1 (by decide) (by decide) rfl rfl ?_
    refine k_lload f151_110 rfl ?_
    refine k_lload f151_111 rfl ?_
    refine k_lcmp f151_112 ?_
    refine k_if_ne f151_113 (fun g0 => ?_) (fun g0 => ?_)
    · refine k_lconst (v := 0) f151_120 rfl ?_
      exact k_lret f151_121 ⟨congrArg (fun t => some (Value.long t)) ((by rw [show jnD 8 a b = if a = b then 1 else 0 by simp [jnD], if_neg (j_eq0 g0)])), rfl⟩
    · refine k_lconst (v := 1) f151_116 rfl ?_
      refine k_goto f151_117 ?_
      exact k_lret f151_121 ⟨congrArg (fun t => some (Value.long t)) ((by rw [show jnD 8 a b = if a = b then 1 else 0 by simp [jnD], if_pos (j_eq1 (Classical.not_not.mp g0))])), rfl⟩
  · show zOk x d 151 0 [.int (9), .long (a), zU, .long (b), zU] [] _ _
    refine k_iload f151_0 rfl ?_
    refine k_tsin (t := 122) f151_1 (by decide) (by decide) rfl rfl ?_
    refine k_lload f151_122 rfl ?_
    refine k_lload f151_123 rfl ?_
    refine k_lcmp f151_124 ?_
    refine k_if_lt f151_125 (fun g0 => ?_) (fun g0 => ?_)
    · refine k_lconst (v := 0) f151_132 rfl ?_
      exact k_lret f151_133 ⟨congrArg (fun t => some (Value.long t)) ((by rw [show jnD 9 a b = if b ≤ a then 1 else 0 by simp [jnD], if_neg (j_ge0 g0)])), rfl⟩
    · refine k_lconst (v := 1) f151_128 rfl ?_
      refine k_goto f151_129 ?_
      exact k_lret f151_133 ⟨congrArg (fun t => some (Value.long t)) ((by rw [show jnD 9 a b = if b ≤ a then 1 else 0 by simp [jnD], if_pos (j_ge1 g0)])), rfl⟩
  · show zOk x d 151 0 [.int (10), .long (a), zU, .long (b), zU] [] _ _
    refine k_iload f151_0 rfl ?_
    refine k_tsin (t := 134) f151_1 (by decide) (by decide) rfl rfl ?_
    refine k_lload f151_134 rfl ?_
    refine k_lload f151_135 rfl ?_
    refine k_lcmp f151_136 ?_
    refine k_if_le f151_137 (fun g0 => ?_) (fun g0 => ?_)
    · refine k_lconst (v := 0) f151_144 rfl ?_
      exact k_lret f151_145 ⟨congrArg (fun t => some (Value.long t)) ((by rw [show jnD 10 a b = if b < a then 1 else 0 by simp [jnD], if_neg (j_gt0 g0)])), rfl⟩
    · refine k_lconst (v := 1) f151_140 rfl ?_
      refine k_goto f151_141 ?_
      exact k_lret f151_145 ⟨congrArg (fun t => some (Value.long t)) ((by rw [show jnD 10 a b = if b < a then 1 else 0 by simp [jnD], if_pos (j_gt1 g0)])), rfl⟩
  · show zOk x d 151 0 [.int (11), .long (a), zU, .long (b), zU] [] _ _
    refine k_iload f151_0 rfl ?_
    refine k_tsin (t := 150) f151_1 (by decide) (by decide) rfl rfl ?_
    refine k_lload f151_150 rfl ?_
    refine k_lload f151_151 rfl ?_
    refine k_lor f151_152 ?_
    exact k_lret f151_153 ⟨congrArg (fun t => some (Value.long t)) ((by simp [jnD])), rfl⟩
  · show zOk x d 151 0 [.int (12), .long (a), zU, .long (b), zU] [] _ _
    refine k_iload f151_0 rfl ?_
    refine k_tsin (t := 146) f151_1 (by decide) (by decide) rfl rfl ?_
    refine k_lload f151_146 rfl ?_
    refine k_lload f151_147 rfl ?_
    refine k_land f151_148 ?_
    exact k_lret f151_149 ⟨congrArg (fun t => some (Value.long t)) ((by simp [jnD])), rfl⟩
