/-! EVERY STEP of the small machine is the real one's. -/
def z_X (x : Nat × (Nat → Int32)) (b : Nat) (adK adV : Nat → Nat) (sb : Nat) (fm : Value) (U : State) : Prop :=
  vk_S 6 z_len z_byt adK adV (z_A b) U U.heap ∧ (∀ (k o i : Nat) (t : String), z_sr[k]? = some (o, i, t) → vk_R (z_own o) i t (adK k) U) ∧ va_Z "java/lang/String" "COMPACT_STRINGS" "Z" (.int 1) (z_A b) U U.heap ∧ va_Z "jdk/internal/util/Preconditions" "SIOOBE_FORMATTER" "Ljava/util/function/BiFunction;" fm (z_A b) U U.heap ∧ va_X sb x.1 x.2 U U.heap ∧ sb < b ∧ b ≤ U.heap.size ∧ fm.category = 1 ∧ (va_AO RX1 U ∧ va_AO RX4 U ∧ va_AO RX6 U) ∧ (∀ (o i y : Nat), Cond.methodLinkNest (z_own o) i (z_yy y) "OtherHands" ∈ lw_tbl → va_Nw (.methodLinkNest (z_own o) i (z_yy y) "OtherHands") U) ∧ va_Nw (.castable "[I" "java/lang/Cloneable") U
def z_C (x : Nat × (Nat → Int32)) (b : Nat) (cs : Nat → ClassId) (D : va_G) (adK adV : Nat → Nat) (sb : Nat) (fm : Value) (Y : Nat) (p : Program) (s : State) (mi : MethodId) (args : Array Value) (meth : Method) (c : Code) : Prop :=
  p.tables.exec = Jvm.exec ∧ c.code = z_cc Y ∧ c.maxLocals = z_mx Y ∧ s.vm.findClass (z_own (z_on.getD Y 0)) = some mi.cls ∧ (∀ w ∈ z_tb, w.before args s = true) ∧ va_K D vwCl (z_tys cs) s ∧ z_X x b adK adV sb fm s ∧ (z_ini.getD Y false = true → meth.name = "<init>") ∧ meth.sig.returnType = z_rt Y ∧ meth.locks = false
def z_G (b : Nat) (cs : Nat → ClassId) (D : va_G) (X : Nat → Value) (Y : Nat) (p : Program) (l : Launch) (e : Env) (Rm : Room) (s : State) (mi : MethodId) (args : Array Value) (below : List Frame) (meth : Method) (c : Code) (n0 t0 : Nat) (Q : State → Prop) (pc : Nat) (L S : List Value) (m : zM) : Prop :=
  ∀ (H : Heap) (locs : List Loc) (ls : Array Slot) (cells slots : Nat), n0 + cells = zn m → t0 + slots = zt m → va_P D vwCl (z_ws b cs m) H → z_wf m → va_S (z_A b) s.heap H locs → z_lh b X ls (z_mx Y) L → W p l e Rm s mi args below meth c H locs cells slots Q (F0 mi pc ls (S.map (zv b X)))
theorem z_ckd {Y pc np tg : Nat} {i : Instr} (h : z_ckE Y (pc, i, np, tg) = true) : ∃ o len, decode (z_cc Y) pc = .ok (o, len) ∧ z_rel Y (z_on.getD Y 0) (z_ini.getD Y false) (z_rets.getD Y none) o len pc i np tg = true := by
  unfold z_ckE at h
  split at h
  · rename_i o len hd
    exact ⟨o, len, hd, h⟩
  · cases h
section
variable {x : Nat × (Nat → Int32)} {b : Nat} {cs : Nat → ClassId} {D : va_G} {adK adV : Nat → Nat} {sb : Nat} {fm : Value} {Y : Nat} {p : Program} {l : Launch} {e : Env} {Rm : Room} {s : State} {mi : MethodId} {args : Array Value} {below : List Frame} {meth : Method} {c : Code} {n0 t0 : Nat} {Q : State → Prop} {pc np tg : Nat} {L S : List Value} {m : zM}
theorem z_size {H : Heap} {locs : List Loc} {cells slots : Nat} {g : JFrame} (k : H.size ≤ s.heap.size + cells → W p l e Rm s mi args below meth c H locs cells slots Q g) : W p l e Rm s mi args below meth c H locs cells slots Q g := fun T hT X => k (by
    have h := X.same.2.2.1
    rw [← hT]
    exact h) T hT X
theorem z_Xc (C : z_C x b cs D adK adV sb fm Y p s mi args meth c) : ∀ k, (zX adK adV sb fm k).category = 1 := zX_cat C.2.2.2.2.2.2.1.2.2.2.2.2.2.2.1
theorem zs_iadd {u v : Int32} (C : z_C x b cs D adK adV sb fm Y p s mi args meth c) (hck : z_ckE Y (pc, .iadd, np, tg) = true)  (kk : z_G b cs D (zX adK adV sb fm) Y p l e Rm s mi args below meth c n0 t0 Q np (L) (.int (u + v) :: S) (m)) : z_G b cs D (zX adK adV sb fm) Y p l e Rm s mi args below meth c n0 t0 Q pc L (.int v :: .int u :: S) m := by
  obtain ⟨o, len, hd, hh⟩ := z_ckd hck
  simp only [z_rel, Bool.and_eq_true, Bool.or_eq_true, beq_iff_eq, decide_eq_true_eq, Bool.not_eq_true'] at hh
  obtain ⟨rfl, rfl, rfl⟩ := hh
  intro H locs ls cells slots h1 h2 h3 h4 h5 h6
  exact lv_iadd C.1 C.2.1 hd (kk H locs ls cells slots h1 h2 h3 h4 h5 h6)
theorem zs_isub {u v : Int32} (C : z_C x b cs D adK adV sb fm Y p s mi args meth c) (hck : z_ckE Y (pc, .isub, np, tg) = true)  (kk : z_G b cs D (zX adK adV sb fm) Y p l e Rm s mi args below meth c n0 t0 Q np (L) (.int (u - v) :: S) (m)) : z_G b cs D (zX adK adV sb fm) Y p l e Rm s mi args below meth c n0 t0 Q pc L (.int v :: .int u :: S) m := by
  obtain ⟨o, len, hd, hh⟩ := z_ckd hck
  simp only [z_rel, Bool.and_eq_true, Bool.or_eq_true, beq_iff_eq, decide_eq_true_eq, Bool.not_eq_true'] at hh
  obtain ⟨rfl, rfl, rfl⟩ := hh
  intro H locs ls cells slots h1 h2 h3 h4 h5 h6
  exact lv_isub C.1 C.2.1 hd (kk H locs ls cells slots h1 h2 h3 h4 h5 h6)
theorem zs_imul {u v : Int32} (C : z_C x b cs D adK adV sb fm Y p s mi args meth c) (hck : z_ckE Y (pc, .imul, np, tg) = true)  (kk : z_G b cs D (zX adK adV sb fm) Y p l e Rm s mi args below meth c n0 t0 Q np (L) (.int (u * v) :: S) (m)) : z_G b cs D (zX adK adV sb fm) Y p l e Rm s mi args below meth c n0 t0 Q pc L (.int v :: .int u :: S) m := by
  obtain ⟨o, len, hd, hh⟩ := z_ckd hck
  simp only [z_rel, Bool.and_eq_true, Bool.or_eq_true, beq_iff_eq, decide_eq_true_eq, Bool.not_eq_true'] at hh
  obtain ⟨rfl, rfl, rfl⟩ := hh
  intro H locs ls cells slots h1 h2 h3 h4 h5 h6
  exact lv_imul C.1 C.2.1 hd (kk H locs ls cells slots h1 h2 h3 h4 h5 h6)
theorem zs_iand {u v : Int32} (C : z_C x b cs D adK adV sb fm Y p s mi args meth c) (hck : z_ckE Y (pc, .iand, np, tg) = true)  (kk : z_G b cs D (zX adK adV sb fm) Y p l e Rm s mi args below meth c n0 t0 Q np (L) (.int (u &&& v) :: S) (m)) : z_G b cs D (zX adK adV sb fm) Y p l e Rm s mi args below meth c n0 t0 Q pc L (.int v :: .int u :: S) m := by
  obtain ⟨o, len, hd, hh⟩ := z_ckd hck
  simp only [z_rel, Bool.and_eq_true, Bool.or_eq_true, beq_iff_eq, decide_eq_true_eq, Bool.not_eq_true'] at hh
  obtain ⟨rfl, rfl, rfl⟩ := hh
  intro H locs ls cells slots h1 h2 h3 h4 h5 h6
  exact lv_iand C.1 C.2.1 hd (kk H locs ls cells slots h1 h2 h3 h4 h5 h6)
theorem zs_ior {u v : Int32} (C : z_C x b cs D adK adV sb fm Y p s mi args meth c) (hck : z_ckE Y (pc, .ior, np, tg) = true)  (kk : z_G b cs D (zX adK adV sb fm) Y p l e Rm s mi args below meth c n0 t0 Q np (L) (.int (u ||| v) :: S) (m)) : z_G b cs D (zX adK adV sb fm) Y p l e Rm s mi args below meth c n0 t0 Q pc L (.int v :: .int u :: S) m := by
  obtain ⟨o, len, hd, hh⟩ := z_ckd hck
  simp only [z_rel, Bool.and_eq_true, Bool.or_eq_true, beq_iff_eq, decide_eq_true_eq, Bool.not_eq_true'] at hh
  obtain ⟨rfl, rfl, rfl⟩ := hh
  intro H locs ls cells slots h1 h2 h3 h4 h5 h6
  exact lv_ior C.1 C.2.1 hd (kk H locs ls cells slots h1 h2 h3 h4 h5 h6)
theorem zs_ixor {u v : Int32} (C : z_C x b cs D adK adV sb fm Y p s mi args meth c) (hck : z_ckE Y (pc, .ixor, np, tg) = true)  (kk : z_G b cs D (zX adK adV sb fm) Y p l e Rm s mi args below meth c n0 t0 Q np (L) (.int (u ^^^ v) :: S) (m)) : z_G b cs D (zX adK adV sb fm) Y p l e Rm s mi args below meth c n0 t0 Q pc L (.int v :: .int u :: S) m := by
  obtain ⟨o, len, hd, hh⟩ := z_ckd hck
  simp only [z_rel, Bool.and_eq_true, Bool.or_eq_true, beq_iff_eq, decide_eq_true_eq, Bool.not_eq_true'] at hh
  obtain ⟨rfl, rfl, rfl⟩ := hh
  intro H locs ls cells slots h1 h2 h3 h4 h5 h6
  exact lv_ixor C.1 C.2.1 hd (kk H locs ls cells slots h1 h2 h3 h4 h5 h6)
theorem zs_ishl {u v : Int32} (C : z_C x b cs D adK adV sb fm Y p s mi args meth c) (hck : z_ckE Y (pc, .ishl, np, tg) = true)  (kk : z_G b cs D (zX adK adV sb fm) Y p l e Rm s mi args below meth c n0 t0 Q np (L) (.int (u <<< (v &&& 31)) :: S) (m)) : z_G b cs D (zX adK adV sb fm) Y p l e Rm s mi args below meth c n0 t0 Q pc L (.int v :: .int u :: S) m := by
  obtain ⟨o, len, hd, hh⟩ := z_ckd hck
  simp only [z_rel, Bool.and_eq_true, Bool.or_eq_true, beq_iff_eq, decide_eq_true_eq, Bool.not_eq_true'] at hh
  obtain ⟨rfl, rfl, rfl⟩ := hh
  intro H locs ls cells slots h1 h2 h3 h4 h5 h6
  exact lv_ishl C.1 C.2.1 hd (kk H locs ls cells slots h1 h2 h3 h4 h5 h6)
theorem zs_ishr {u v : Int32} (C : z_C x b cs D adK adV sb fm Y p s mi args meth c) (hck : z_ckE Y (pc, .ishr, np, tg) = true)  (kk : z_G b cs D (zX adK adV sb fm) Y p l e Rm s mi args below meth c n0 t0 Q np (L) (.int (u >>> (v &&& 31)) :: S) (m)) : z_G b cs D (zX adK adV sb fm) Y p l e Rm s mi args below meth c n0 t0 Q pc L (.int v :: .int u :: S) m := by
  obtain ⟨o, len, hd, hh⟩ := z_ckd hck
  simp only [z_rel, Bool.and_eq_true, Bool.or_eq_true, beq_iff_eq, decide_eq_true_eq, Bool.not_eq_true'] at hh
  obtain ⟨rfl, rfl, rfl⟩ := hh
  intro H locs ls cells slots h1 h2 h3 h4 h5 h6
  exact lv_ishr C.1 C.2.1 hd (kk H locs ls cells slots h1 h2 h3 h4 h5 h6)
theorem zs_iushr {u v : Int32} (C : z_C x b cs D adK adV sb fm Y p s mi args meth c) (hck : z_ckE Y (pc, .iushr, np, tg) = true)  (kk : z_G b cs D (zX adK adV sb fm) Y p l e Rm s mi args below meth c n0 t0 Q np (L) (.int (u.toUInt32 >>> (v.toUInt32 &&& Int32.toUInt32 31)).toInt32 :: S) (m)) : z_G b cs D (zX adK adV sb fm) Y p l e Rm s mi args below meth c n0 t0 Q pc L (.int v :: .int u :: S) m := by
  obtain ⟨o, len, hd, hh⟩ := z_ckd hck
  simp only [z_rel, Bool.and_eq_true, Bool.or_eq_true, beq_iff_eq, decide_eq_true_eq, Bool.not_eq_true'] at hh
  obtain ⟨rfl, rfl, rfl⟩ := hh
  intro H locs ls cells slots h1 h2 h3 h4 h5 h6
  exact lv_iushr C.1 C.2.1 hd rfl (kk H locs ls cells slots h1 h2 h3 h4 h5 h6)
theorem zs_idiv {u v : Int32} (C : z_C x b cs D adK adV sb fm Y p s mi args meth c) (hck : z_ckE Y (pc, .idiv, np, tg) = true) (hv : ¬ v = 0) (kk : z_G b cs D (zX adK adV sb fm) Y p l e Rm s mi args below meth c n0 t0 Q np (L) (.int (u / v) :: S) (m)) : z_G b cs D (zX adK adV sb fm) Y p l e Rm s mi args below meth c n0 t0 Q pc L (.int v :: .int u :: S) m := by
  obtain ⟨o, len, hd, hh⟩ := z_ckd hck
  simp only [z_rel, Bool.and_eq_true, Bool.or_eq_true, beq_iff_eq, decide_eq_true_eq, Bool.not_eq_true'] at hh
  obtain ⟨rfl, rfl, rfl⟩ := hh
  intro H locs ls cells slots h1 h2 h3 h4 h5 h6
  exact lv_idiv C.1 C.2.1 hd hv (kk H locs ls cells slots h1 h2 h3 h4 h5 h6)
theorem zs_irem {u v : Int32} (C : z_C x b cs D adK adV sb fm Y p s mi args meth c) (hck : z_ckE Y (pc, .irem, np, tg) = true) (hv : ¬ v = 0) (kk : z_G b cs D (zX adK adV sb fm) Y p l e Rm s mi args below meth c n0 t0 Q np (L) (.int (u - u / v * v) :: S) (m)) : z_G b cs D (zX adK adV sb fm) Y p l e Rm s mi args below meth c n0 t0 Q pc L (.int v :: .int u :: S) m := by
  obtain ⟨o, len, hd, hh⟩ := z_ckd hck
  simp only [z_rel, Bool.and_eq_true, Bool.or_eq_true, beq_iff_eq, decide_eq_true_eq, Bool.not_eq_true'] at hh
  obtain ⟨rfl, rfl, rfl⟩ := hh
  intro H locs ls cells slots h1 h2 h3 h4 h5 h6
  exact lv_irem C.1 C.2.1 hd hv (kk H locs ls cells slots h1 h2 h3 h4 h5 h6)
theorem zs_ineg {u : Int32} (C : z_C x b cs D adK adV sb fm Y p s mi args meth c) (hck : z_ckE Y (pc, .ineg, np, tg) = true)  (kk : z_G b cs D (zX adK adV sb fm) Y p l e Rm s mi args below meth c n0 t0 Q np (L) (.int (-u) :: S) (m)) : z_G b cs D (zX adK adV sb fm) Y p l e Rm s mi args below meth c n0 t0 Q pc L (.int u :: S) m := by
  obtain ⟨o, len, hd, hh⟩ := z_ckd hck
  simp only [z_rel, Bool.and_eq_true, Bool.or_eq_true, beq_iff_eq, decide_eq_true_eq, Bool.not_eq_true'] at hh
  obtain ⟨rfl, rfl, rfl⟩ := hh
  intro H locs ls cells slots h1 h2 h3 h4 h5 h6
  exact lv_ineg C.1 C.2.1 hd (kk H locs ls cells slots h1 h2 h3 h4 h5 h6)
theorem zs_ladd {u v : Int64} (C : z_C x b cs D adK adV sb fm Y p s mi args meth c) (hck : z_ckE Y (pc, .ladd, np, tg) = true)  (kk : z_G b cs D (zX adK adV sb fm) Y p l e Rm s mi args below meth c n0 t0 Q np (L) (.long (u + v) :: S) (m)) : z_G b cs D (zX adK adV sb fm) Y p l e Rm s mi args below meth c n0 t0 Q pc L (.long v :: .long u :: S) m := by
  obtain ⟨o, len, hd, hh⟩ := z_ckd hck
  simp only [z_rel, Bool.and_eq_true, Bool.or_eq_true, beq_iff_eq, decide_eq_true_eq, Bool.not_eq_true'] at hh
  obtain ⟨rfl, rfl, rfl⟩ := hh
  intro H locs ls cells slots h1 h2 h3 h4 h5 h6
  exact lv_ladd C.1 C.2.1 hd (kk H locs ls cells slots h1 h2 h3 h4 h5 h6)
theorem zs_lsub {u v : Int64} (C : z_C x b cs D adK adV sb fm Y p s mi args meth c) (hck : z_ckE Y (pc, .lsub, np, tg) = true)  (kk : z_G b cs D (zX adK adV sb fm) Y p l e Rm s mi args below meth c n0 t0 Q np (L) (.long (u - v) :: S) (m)) : z_G b cs D (zX adK adV sb fm) Y p l e Rm s mi args below meth c n0 t0 Q pc L (.long v :: .long u :: S) m := by
  obtain ⟨o, len, hd, hh⟩ := z_ckd hck
  simp only [z_rel, Bool.and_eq_true, Bool.or_eq_true, beq_iff_eq, decide_eq_true_eq, Bool.not_eq_true'] at hh
  obtain ⟨rfl, rfl, rfl⟩ := hh
  intro H locs ls cells slots h1 h2 h3 h4 h5 h6
  exact lv_lsub C.1 C.2.1 hd (kk H locs ls cells slots h1 h2 h3 h4 h5 h6)
theorem zs_lmul {u v : Int64} (C : z_C x b cs D adK adV sb fm Y p s mi args meth c) (hck : z_ckE Y (pc, .lmul, np, tg) = true)  (kk : z_G b cs D (zX adK adV sb fm) Y p l e Rm s mi args below meth c n0 t0 Q np (L) (.long (u * v) :: S) (m)) : z_G b cs D (zX adK adV sb fm) Y p l e Rm s mi args below meth c n0 t0 Q pc L (.long v :: .long u :: S) m := by
  obtain ⟨o, len, hd, hh⟩ := z_ckd hck
  simp only [z_rel, Bool.and_eq_true, Bool.or_eq_true, beq_iff_eq, decide_eq_true_eq, Bool.not_eq_true'] at hh
  obtain ⟨rfl, rfl, rfl⟩ := hh
  intro H locs ls cells slots h1 h2 h3 h4 h5 h6
  exact lv_lmul C.1 C.2.1 hd (kk H locs ls cells slots h1 h2 h3 h4 h5 h6)
theorem zs_land {u v : Int64} (C : z_C x b cs D adK adV sb fm Y p s mi args meth c) (hck : z_ckE Y (pc, .land, np, tg) = true)  (kk : z_G b cs D (zX adK adV sb fm) Y p l e Rm s mi args below meth c n0 t0 Q np (L) (.long (u &&& v) :: S) (m)) : z_G b cs D (zX adK adV sb fm) Y p l e Rm s mi args below meth c n0 t0 Q pc L (.long v :: .long u :: S) m := by
  obtain ⟨o, len, hd, hh⟩ := z_ckd hck
  simp only [z_rel, Bool.and_eq_true, Bool.or_eq_true, beq_iff_eq, decide_eq_true_eq, Bool.not_eq_true'] at hh
  obtain ⟨rfl, rfl, rfl⟩ := hh
  intro H locs ls cells slots h1 h2 h3 h4 h5 h6
  exact lv_land C.1 C.2.1 hd (kk H locs ls cells slots h1 h2 h3 h4 h5 h6)
theorem zs_lor {u v : Int64} (C : z_C x b cs D adK adV sb fm Y p s mi args meth c) (hck : z_ckE Y (pc, .lor, np, tg) = true)  (kk : z_G b cs D (zX adK adV sb fm) Y p l e Rm s mi args below meth c n0 t0 Q np (L) (.long (u ||| v) :: S) (m)) : z_G b cs D (zX adK adV sb fm) Y p l e Rm s mi args below meth c n0 t0 Q pc L (.long v :: .long u :: S) m := by
  obtain ⟨o, len, hd, hh⟩ := z_ckd hck
  simp only [z_rel, Bool.and_eq_true, Bool.or_eq_true, beq_iff_eq, decide_eq_true_eq, Bool.not_eq_true'] at hh
  obtain ⟨rfl, rfl, rfl⟩ := hh
  intro H locs ls cells slots h1 h2 h3 h4 h5 h6
  exact lv_lor C.1 C.2.1 hd (kk H locs ls cells slots h1 h2 h3 h4 h5 h6)
theorem zs_ldiv {u v : Int64} (C : z_C x b cs D adK adV sb fm Y p s mi args meth c) (hck : z_ckE Y (pc, .ldiv, np, tg) = true) (hv : ¬ v = 0) (kk : z_G b cs D (zX adK adV sb fm) Y p l e Rm s mi args below meth c n0 t0 Q np (L) (.long (u / v) :: S) (m)) : z_G b cs D (zX adK adV sb fm) Y p l e Rm s mi args below meth c n0 t0 Q pc L (.long v :: .long u :: S) m := by
  obtain ⟨o, len, hd, hh⟩ := z_ckd hck
  simp only [z_rel, Bool.and_eq_true, Bool.or_eq_true, beq_iff_eq, decide_eq_true_eq, Bool.not_eq_true'] at hh
  obtain ⟨rfl, rfl, rfl⟩ := hh
  intro H locs ls cells slots h1 h2 h3 h4 h5 h6
  exact lv_ldiv C.1 C.2.1 hd hv (kk H locs ls cells slots h1 h2 h3 h4 h5 h6)
theorem zs_lrem {u v : Int64} (C : z_C x b cs D adK adV sb fm Y p s mi args meth c) (hck : z_ckE Y (pc, .lrem, np, tg) = true) (hv : ¬ v = 0) (kk : z_G b cs D (zX adK adV sb fm) Y p l e Rm s mi args below meth c n0 t0 Q np (L) (.long (u - u / v * v) :: S) (m)) : z_G b cs D (zX adK adV sb fm) Y p l e Rm s mi args below meth c n0 t0 Q pc L (.long v :: .long u :: S) m := by
  obtain ⟨o, len, hd, hh⟩ := z_ckd hck
  simp only [z_rel, Bool.and_eq_true, Bool.or_eq_true, beq_iff_eq, decide_eq_true_eq, Bool.not_eq_true'] at hh
  obtain ⟨rfl, rfl, rfl⟩ := hh
  intro H locs ls cells slots h1 h2 h3 h4 h5 h6
  exact lv_lrem C.1 C.2.1 hd hv (kk H locs ls cells slots h1 h2 h3 h4 h5 h6)
theorem zs_lshl {u : Int64} {v : Int32} (C : z_C x b cs D adK adV sb fm Y p s mi args meth c) (hck : z_ckE Y (pc, .lshl, np, tg) = true)  (kk : z_G b cs D (zX adK adV sb fm) Y p l e Rm s mi args below meth c n0 t0 Q np (L) (.long (u <<< (v.toInt64 &&& 63)) :: S) (m)) : z_G b cs D (zX adK adV sb fm) Y p l e Rm s mi args below meth c n0 t0 Q pc L (.int v :: .long u :: S) m := by
  obtain ⟨o, len, hd, hh⟩ := z_ckd hck
  simp only [z_rel, Bool.and_eq_true, Bool.or_eq_true, beq_iff_eq, decide_eq_true_eq, Bool.not_eq_true'] at hh
  obtain ⟨rfl, rfl, rfl⟩ := hh
  intro H locs ls cells slots h1 h2 h3 h4 h5 h6
  exact lv_lshl C.1 C.2.1 hd rfl (kk H locs ls cells slots h1 h2 h3 h4 h5 h6)
theorem zs_lcmp {u v : Int64} (C : z_C x b cs D adK adV sb fm Y p s mi args meth c) (hck : z_ckE Y (pc, .lcmp, np, tg) = true)  (kk : z_G b cs D (zX adK adV sb fm) Y p l e Rm s mi args below meth c n0 t0 Q np (L) (.int (lg_cmp u v) :: S) (m)) : z_G b cs D (zX adK adV sb fm) Y p l e Rm s mi args below meth c n0 t0 Q pc L (.long v :: .long u :: S) m := by
  obtain ⟨o, len, hd, hh⟩ := z_ckd hck
  simp only [z_rel, Bool.and_eq_true, Bool.or_eq_true, beq_iff_eq, decide_eq_true_eq, Bool.not_eq_true'] at hh
  obtain ⟨rfl, rfl, rfl⟩ := hh
  intro H locs ls cells slots h1 h2 h3 h4 h5 h6
  exact W.lcmp C.1 C.2.1 hd (kk H locs ls cells slots h1 h2 h3 h4 h5 h6)
theorem zs_i2l {u : Int32} (C : z_C x b cs D adK adV sb fm Y p s mi args meth c) (hck : z_ckE Y (pc, .i2l, np, tg) = true)  (kk : z_G b cs D (zX adK adV sb fm) Y p l e Rm s mi args below meth c n0 t0 Q np (L) (.long u.toInt64 :: S) (m)) : z_G b cs D (zX adK adV sb fm) Y p l e Rm s mi args below meth c n0 t0 Q pc L (.int u :: S) m := by
  obtain ⟨o, len, hd, hh⟩ := z_ckd hck
  simp only [z_rel, Bool.and_eq_true, Bool.or_eq_true, beq_iff_eq, decide_eq_true_eq, Bool.not_eq_true'] at hh
  obtain ⟨rfl, rfl, rfl⟩ := hh
  intro H locs ls cells slots h1 h2 h3 h4 h5 h6
  exact lv_i2l C.1 C.2.1 hd rfl (kk H locs ls cells slots h1 h2 h3 h4 h5 h6)
theorem zs_l2i {u : Int64} (C : z_C x b cs D adK adV sb fm Y p s mi args meth c) (hck : z_ckE Y (pc, .l2i, np, tg) = true)  (kk : z_G b cs D (zX adK adV sb fm) Y p l e Rm s mi args below meth c n0 t0 Q np (L) (.int u.toInt32 :: S) (m)) : z_G b cs D (zX adK adV sb fm) Y p l e Rm s mi args below meth c n0 t0 Q pc L (.long u :: S) m := by
  obtain ⟨o, len, hd, hh⟩ := z_ckd hck
  simp only [z_rel, Bool.and_eq_true, Bool.or_eq_true, beq_iff_eq, decide_eq_true_eq, Bool.not_eq_true'] at hh
  obtain ⟨rfl, rfl, rfl⟩ := hh
  intro H locs ls cells slots h1 h2 h3 h4 h5 h6
  exact lv_l2i C.1 C.2.1 hd rfl (kk H locs ls cells slots h1 h2 h3 h4 h5 h6)
theorem zs_i2b {u : Int32} (C : z_C x b cs D adK adV sb fm Y p s mi args meth c) (hck : z_ckE Y (pc, .i2b, np, tg) = true)  (kk : z_G b cs D (zX adK adV sb fm) Y p l e Rm s mi args below meth c n0 t0 Q np (L) (.int u.toInt8.toInt32 :: S) (m)) : z_G b cs D (zX adK adV sb fm) Y p l e Rm s mi args below meth c n0 t0 Q pc L (.int u :: S) m := by
  obtain ⟨o, len, hd, hh⟩ := z_ckd hck
  simp only [z_rel, Bool.and_eq_true, Bool.or_eq_true, beq_iff_eq, decide_eq_true_eq, Bool.not_eq_true'] at hh
  obtain ⟨rfl, rfl, rfl⟩ := hh
  intro H locs ls cells slots h1 h2 h3 h4 h5 h6
  exact lv_i2b C.1 C.2.1 hd rfl (kk H locs ls cells slots h1 h2 h3 h4 h5 h6)
theorem zs_i2c {u : Int32} (C : z_C x b cs D adK adV sb fm Y p s mi args meth c) (hck : z_ckE Y (pc, .i2c, np, tg) = true)  (kk : z_G b cs D (zX adK adV sb fm) Y p l e Rm s mi args below meth c n0 t0 Q np (L) (.int (u.toUInt32 % 65536).toInt32 :: S) (m)) : z_G b cs D (zX adK adV sb fm) Y p l e Rm s mi args below meth c n0 t0 Q pc L (.int u :: S) m := by
  obtain ⟨o, len, hd, hh⟩ := z_ckd hck
  simp only [z_rel, Bool.and_eq_true, Bool.or_eq_true, beq_iff_eq, decide_eq_true_eq, Bool.not_eq_true'] at hh
  obtain ⟨rfl, rfl, rfl⟩ := hh
  intro H locs ls cells slots h1 h2 h3 h4 h5 h6
  exact lv_i2c C.1 C.2.1 hd rfl (kk H locs ls cells slots h1 h2 h3 h4 h5 h6)
theorem zs_aconst_null  (C : z_C x b cs D adK adV sb fm Y p s mi args meth c) (hck : z_ckE Y (pc, .aconst_null, np, tg) = true)  (kk : z_G b cs D (zX adK adV sb fm) Y p l e Rm s mi args below meth c n0 t0 Q np (L) (.null :: S) (m)) : z_G b cs D (zX adK adV sb fm) Y p l e Rm s mi args below meth c n0 t0 Q pc L (S) m := by
  obtain ⟨o, len, hd, hh⟩ := z_ckd hck
  simp only [z_rel, Bool.and_eq_true, Bool.or_eq_true, beq_iff_eq, decide_eq_true_eq, Bool.not_eq_true'] at hh
  obtain ⟨rfl, rfl, rfl⟩ := hh
  intro H locs ls cells slots h1 h2 h3 h4 h5 h6
  exact lv_null C.1 C.2.1 hd (kk H locs ls cells slots h1 h2 h3 h4 h5 h6)
theorem zs_dup {v : Value} (C : z_C x b cs D adK adV sb fm Y p s mi args meth c) (hck : z_ckE Y (pc, .dup, np, tg) = true) (hv : v.category = 1) (kk : z_G b cs D (zX adK adV sb fm) Y p l e Rm s mi args below meth c n0 t0 Q np (L) (v :: v :: S) (m)) : z_G b cs D (zX adK adV sb fm) Y p l e Rm s mi args below meth c n0 t0 Q pc L (v :: S) m := by
  obtain ⟨o, len, hd, hh⟩ := z_ckd hck
  simp only [z_rel, Bool.and_eq_true, Bool.or_eq_true, beq_iff_eq, decide_eq_true_eq, Bool.not_eq_true'] at hh
  obtain ⟨rfl, rfl, rfl⟩ := hh
  intro H locs ls cells slots h1 h2 h3 h4 h5 h6
  exact lv_dup (va := zv b (zX adK adV sb fm) v) C.1 C.2.1 hd (by rw [zv_cat (z_Xc C)]; exact hv) (kk H locs ls cells slots h1 h2 h3 h4 h5 h6)
theorem zs_dup2 {v w : Value} (C : z_C x b cs D adK adV sb fm Y p s mi args meth c) (hck : z_ckE Y (pc, .dup2, np, tg) = true) (hv : v.category = 1) (hw : w.category = 1) (kk : z_G b cs D (zX adK adV sb fm) Y p l e Rm s mi args below meth c n0 t0 Q np (L) (v :: w :: v :: w :: S) (m)) : z_G b cs D (zX adK adV sb fm) Y p l e Rm s mi args below meth c n0 t0 Q pc L (v :: w :: S) m := by
  obtain ⟨o, len, hd, hh⟩ := z_ckd hck
  simp only [z_rel, Bool.and_eq_true, Bool.or_eq_true, beq_iff_eq, decide_eq_true_eq, Bool.not_eq_true'] at hh
  obtain ⟨rfl, rfl, rfl⟩ := hh
  intro H locs ls cells slots h1 h2 h3 h4 h5 h6
  exact lv_dup2_11 (va := zv b (zX adK adV sb fm) v) (vb := zv b (zX adK adV sb fm) w) C.1 C.2.1 hd (by rw [zv_cat (z_Xc C)]; exact hv) (by rw [zv_cat (z_Xc C)]; exact hw) (kk H locs ls cells slots h1 h2 h3 h4 h5 h6)
theorem zs_pop {v : Value} (C : z_C x b cs D adK adV sb fm Y p s mi args meth c) (hck : z_ckE Y (pc, .pop, np, tg) = true) (hv : v.category = 1) (kk : z_G b cs D (zX adK adV sb fm) Y p l e Rm s mi args below meth c n0 t0 Q np (L) (S) (m)) : z_G b cs D (zX adK adV sb fm) Y p l e Rm s mi args below meth c n0 t0 Q pc L (v :: S) m := by
  obtain ⟨o, len, hd, hh⟩ := z_ckd hck
  simp only [z_rel, Bool.and_eq_true, Bool.or_eq_true, beq_iff_eq, decide_eq_true_eq, Bool.not_eq_true'] at hh
  obtain ⟨rfl, rfl, rfl⟩ := hh
  intro H locs ls cells slots h1 h2 h3 h4 h5 h6
  exact lv_pop (va := zv b (zX adK adV sb fm) v) C.1 C.2.1 hd (by rw [zv_cat (z_Xc C)]; exact hv) (kk H locs ls cells slots h1 h2 h3 h4 h5 h6)
theorem zs_iconst {n : Int} (C : z_C x b cs D adK adV sb fm Y p s mi args meth c) (hck : z_ckE Y (pc, .iconst n, np, tg) = true)  (kk : z_G b cs D (zX adK adV sb fm) Y p l e Rm s mi args below meth c n0 t0 Q np (L) (.int (Int32.ofInt n) :: S) (m)) : z_G b cs D (zX adK adV sb fm) Y p l e Rm s mi args below meth c n0 t0 Q pc L (S) m := by
  obtain ⟨o, len, hd, hh⟩ := z_ckd hck
  simp only [z_rel, Bool.and_eq_true, Bool.or_eq_true, beq_iff_eq, decide_eq_true_eq, Bool.not_eq_true'] at hh
  obtain ⟨rfl, hh⟩ := hh
  intro H locs ls cells slots h1 h2 h3 h4 h5 h6
  split at hh
  · simp only [Bool.and_eq_true, beq_iff_eq] at hh
    obtain ⟨rfl, rfl⟩ := hh
    exact lv_iconst C.1 C.2.1 hd rfl (kk H locs ls cells slots h1 h2 h3 h4 h5 h6)
  · simp only [Bool.and_eq_true, beq_iff_eq, decide_eq_true_eq] at hh
    obtain ⟨⟨rfl, rfl⟩, hv⟩ := hh
    exact lv_bipush C.1 C.2.1 hd hv (kk H locs ls cells slots h1 h2 h3 h4 h5 h6)
  · simp only [Bool.and_eq_true, beq_iff_eq, decide_eq_true_eq] at hh
    obtain ⟨⟨rfl, rfl⟩, hv⟩ := hh
    exact lv_sipush C.1 C.2.1 hd hv (kk H locs ls cells slots h1 h2 h3 h4 h5 h6)
  · simp only [Bool.and_eq_true, beq_iff_eq, decide_eq_true_eq] at hh
    obtain ⟨rfl, hv⟩ := hh
    exact lv_ldc C.1 C.2.1 C.2.2.2.1 (C.2.2.2.2.1 _ (z_in (z_cst_ok _ hv) rfl)) hd (kk H locs ls cells slots h1 h2 h3 h4 h5 h6)
  · simp only [Bool.and_eq_true, beq_iff_eq, decide_eq_true_eq] at hh
    obtain ⟨rfl, hv⟩ := hh
    intro T hT XX
    obtain ⟨t, a1, b1⟩ := (kk H locs ls cells slots h1 h2 h3 h4 h5 h6) T hT XX
    exact ⟨t, va_ldcwI XX C.1 C.2.2.2.1 (C.2.2.2.2.1 _ (z_in (z_cst_ok _ hv) rfl)) (g := F0 mi pc ls (S.map (zv b (zX adK adV sb fm)))) rfl (by rw [C.2.1]; exact hd) t a1, b1⟩
  · cases hh
theorem zs_goto_w {n : Int} (C : z_C x b cs D adK adV sb fm Y p s mi args meth c) (hck : z_ckE Y (pc, .goto_w n, np, tg) = true)  (kk : z_G b cs D (zX adK adV sb fm) Y p l e Rm s mi args below meth c n0 t0 Q np (L) (.long (Int64.ofInt n) :: S) (m)) : z_G b cs D (zX adK adV sb fm) Y p l e Rm s mi args below meth c n0 t0 Q pc L (S) m := by
  obtain ⟨o, len, hd, hh⟩ := z_ckd hck
  simp only [z_rel, Bool.and_eq_true, Bool.or_eq_true, beq_iff_eq, decide_eq_true_eq, Bool.not_eq_true'] at hh
  obtain ⟨rfl, hh⟩ := hh
  intro H locs ls cells slots h1 h2 h3 h4 h5 h6
  split at hh
  · simp only [Bool.and_eq_true, beq_iff_eq, decide_eq_true_eq] at hh
    obtain ⟨rfl, hv⟩ := hh
    exact lv_lconst C.1 C.2.1 hd hv (kk H locs ls cells slots h1 h2 h3 h4 h5 h6)
  · simp only [Bool.and_eq_true, beq_iff_eq, decide_eq_true_eq] at hh
    obtain ⟨rfl, hv⟩ := hh
    exact lv_ldc2 C.1 C.2.1 C.2.2.2.1 (C.2.2.2.2.1 _ (z_in (z_csl_ok _ hv) rfl)) hd (kk H locs ls cells slots h1 h2 h3 h4 h5 h6)
  · cases hh
theorem zs_ldc {k : Nat} (C : z_C x b cs D adK adV sb fm Y p s mi args meth c) (hck : z_ckE Y (pc, .ldc k, np, tg) = true)  (kk : z_G b cs D (zX adK adV sb fm) Y p l e Rm s mi args below meth c n0 t0 Q np (L) (.retAddr k :: S) (m)) : z_G b cs D (zX adK adV sb fm) Y p l e Rm s mi args below meth c n0 t0 Q pc L (S) m := by
  obtain ⟨o, len, hd, hh⟩ := z_ckd hck
  simp only [z_rel, Bool.and_eq_true, Bool.or_eq_true, beq_iff_eq, decide_eq_true_eq, Bool.not_eq_true'] at hh
  obtain ⟨rfl, hh⟩ := hh
  intro H locs ls cells slots h1 h2 h3 h4 h5 h6
  split at hh
  · simp only [Bool.and_eq_true, beq_iff_eq, decide_eq_true_eq] at hh
    obtain ⟨⟨rfl, hk⟩, hv⟩ := hh
    obtain ⟨q, hq, e⟩ : ∃ q, z_sr[k]? = some q ∧ (q.1, q.2.1) = (z_on.getD Y 0, _) := by
      rw [List.getElem?_map] at hv
      cases h9 : z_sr[k]? with
      | none => rw [h9] at hv; cases hv
      | some q => rw [h9] at hv; exact ⟨q, rfl, Option.some.inj hv⟩
    obtain ⟨q1, q2, q3⟩ := q
    cases e
    have hR := C.2.2.2.2.2.2.1.2.1 k _ _ _ hq
    refine va_ldcS C.1 C.2.1 C.2.2.2.1 hR hd ?_
    have e2 : zX adK adV sb fm k = .ref (adK k) := by unfold zX; rw [if_pos hk]
    have := (kk H locs ls cells slots h1 h2 h3 h4 h5 h6)
    rw [List.map_cons, show zv b (zX adK adV sb fm) (.retAddr k) = .ref (adK k) from e2] at this
    exact this
  · cases hh
theorem zs_getstatic0  (C : z_C x b cs D adK adV sb fm Y p s mi args meth c) (hck : z_ckE Y (pc, .getstatic 0, np, tg) = true)  (kk : z_G b cs D (zX adK adV sb fm) Y p l e Rm s mi args below meth c n0 t0 Q np (L) (.int 1 :: S) (m)) : z_G b cs D (zX adK adV sb fm) Y p l e Rm s mi args below meth c n0 t0 Q pc L (S) m := by
  obtain ⟨o, len, hd, hh⟩ := z_ckd hck
  simp only [z_rel, Bool.and_eq_true, Bool.or_eq_true, beq_iff_eq, decide_eq_true_eq, Bool.not_eq_true'] at hh
  obtain ⟨rfl, hh⟩ := hh
  intro H locs ls cells slots h1 h2 h3 h4 h5 h6
  split at hh
  · simp only [Bool.and_eq_true, Bool.or_eq_true, beq_iff_eq] at hh
    obtain ⟨⟨rfl, ho⟩, hh⟩ := hh
    rcases hh with ⟨-, rfl⟩ | ⟨h9, -⟩
    · exact va_gets C.1 C.2.1 C.2.2.2.2.2.2.1.2.2.1 h5 C.2.2.2.1 (C.2.2.2.2.1 (.fieldLink (z_own (z_on.getD Y 0)) 38 "java/lang/String" "COMPACT_STRINGS" "Z") (by rw [ho]; exact z_in (by decide +kernel) rfl)) (fun _ h9 => h9) hd (kk H locs ls cells slots h1 h2 h3 h4 h5 h6)
    · cases h9
  · cases hh
theorem zs_getstatic1  (C : z_C x b cs D adK adV sb fm Y p s mi args meth c) (hck : z_ckE Y (pc, .getstatic 1, np, tg) = true)  (kk : z_G b cs D (zX adK adV sb fm) Y p l e Rm s mi args below meth c n0 t0 Q np (L) (.retAddr 20 :: S) (m)) : z_G b cs D (zX adK adV sb fm) Y p l e Rm s mi args below meth c n0 t0 Q pc L (S) m := by
  obtain ⟨o, len, hd, hh⟩ := z_ckd hck
  simp only [z_rel, Bool.and_eq_true, Bool.or_eq_true, beq_iff_eq, decide_eq_true_eq, Bool.not_eq_true'] at hh
  obtain ⟨rfl, hh⟩ := hh
  intro H locs ls cells slots h1 h2 h3 h4 h5 h6
  split at hh
  · simp only [Bool.and_eq_true, Bool.or_eq_true, beq_iff_eq] at hh
    obtain ⟨⟨rfl, ho⟩, hh⟩ := hh
    rcases hh with ⟨h9, -⟩ | ⟨-, rfl⟩
    · cases h9
    · exact va_gets C.1 C.2.1 C.2.2.2.2.2.2.1.2.2.2.1 h5 C.2.2.2.1 (C.2.2.2.2.1 (.fieldLink (z_own (z_on.getD Y 0)) 1053 "jdk/internal/util/Preconditions" "SIOOBE_FORMATTER" "Ljava/util/function/BiFunction;") (by rw [ho]; exact z_in (by decide +kernel) rfl)) (fun _ h9 => h9) hd (kk H locs ls cells slots h1 h2 h3 h4 h5 h6)
  · cases hh
theorem zs_iload {k : Nat} {v : Int32} (C : z_C x b cs D adK adV sb fm Y p s mi args meth c) (hck : z_ckE Y (pc, .iload k, np, tg) = true) (hl : z_at L k = .int v)  (kk : z_G b cs D (zX adK adV sb fm) Y p l e Rm s mi args below meth c n0 t0 Q np (L) (.int v :: S) (m)) : z_G b cs D (zX adK adV sb fm) Y p l e Rm s mi args below meth c n0 t0 Q pc L (S) m := by
  obtain ⟨o, len, hd, hh⟩ := z_ckd hck
  simp only [z_rel, Bool.and_eq_true, Bool.or_eq_true, beq_iff_eq, decide_eq_true_eq, Bool.not_eq_true'] at hh
  obtain ⟨rfl, hh⟩ := hh
  intro H locs ls cells slots h1 h2 h3 h4 h5 h6
  split at hh
  · simp only [Bool.and_eq_true, beq_iff_eq] at hh
    obtain ⟨rfl, rfl⟩ := hh
    exact lv_iload_n C.1 C.2.1 hd rfl (z_lget h6 hl rfl) (kk H locs ls cells slots h1 h2 h3 h4 h5 h6)
  · simp only [Bool.and_eq_true, beq_iff_eq] at hh
    obtain ⟨rfl, rfl⟩ := hh
    exact lv_iload C.1 C.2.1 hd (z_lget h6 hl rfl) (kk H locs ls cells slots h1 h2 h3 h4 h5 h6)
  · cases hh
theorem zs_lload {k : Nat} {v : Int64} (C : z_C x b cs D adK adV sb fm Y p s mi args meth c) (hck : z_ckE Y (pc, .lload k, np, tg) = true) (hl : z_at L k = .long v)  (kk : z_G b cs D (zX adK adV sb fm) Y p l e Rm s mi args below meth c n0 t0 Q np (L) (.long v :: S) (m)) : z_G b cs D (zX adK adV sb fm) Y p l e Rm s mi args below meth c n0 t0 Q pc L (S) m := by
  obtain ⟨o, len, hd, hh⟩ := z_ckd hck
  simp only [z_rel, Bool.and_eq_true, Bool.or_eq_true, beq_iff_eq, decide_eq_true_eq, Bool.not_eq_true'] at hh
  obtain ⟨rfl, hh⟩ := hh
  intro H locs ls cells slots h1 h2 h3 h4 h5 h6
  split at hh
  · simp only [Bool.and_eq_true, beq_iff_eq] at hh
    obtain ⟨rfl, rfl⟩ := hh
    exact lv_lload_n C.1 C.2.1 hd rfl (z_lget h6 hl rfl) (kk H locs ls cells slots h1 h2 h3 h4 h5 h6)
  · simp only [Bool.and_eq_true, beq_iff_eq] at hh
    obtain ⟨rfl, rfl⟩ := hh
    exact lv_lload C.1 C.2.1 hd (z_lget h6 hl rfl) (kk H locs ls cells slots h1 h2 h3 h4 h5 h6)
  · cases hh
theorem zs_aload {k v : Nat} (C : z_C x b cs D adK adV sb fm Y p s mi args meth c) (hck : z_ckE Y (pc, .aload k, np, tg) = true) (hl : z_at L k = .ref v)  (kk : z_G b cs D (zX adK adV sb fm) Y p l e Rm s mi args below meth c n0 t0 Q np (L) (.ref v :: S) (m)) : z_G b cs D (zX adK adV sb fm) Y p l e Rm s mi args below meth c n0 t0 Q pc L (S) m := by
  obtain ⟨o, len, hd, hh⟩ := z_ckd hck
  simp only [z_rel, Bool.and_eq_true, Bool.or_eq_true, beq_iff_eq, decide_eq_true_eq, Bool.not_eq_true'] at hh
  obtain ⟨rfl, hh⟩ := hh
  intro H locs ls cells slots h1 h2 h3 h4 h5 h6
  split at hh
  · simp only [Bool.and_eq_true, beq_iff_eq] at hh
    obtain ⟨rfl, rfl⟩ := hh
    exact lv_aload_n C.1 C.2.1 hd rfl (z_lget h6 hl rfl) (kk H locs ls cells slots h1 h2 h3 h4 h5 h6)
  · simp only [Bool.and_eq_true, beq_iff_eq] at hh
    obtain ⟨rfl, rfl⟩ := hh
    exact lv_aload C.1 C.2.1 hd (z_lget h6 hl rfl) (kk H locs ls cells slots h1 h2 h3 h4 h5 h6)
  · cases hh
theorem zs_aloadn {k : Nat} (C : z_C x b cs D adK adV sb fm Y p s mi args meth c) (hck : z_ckE Y (pc, .aload k, np, tg) = true) (hl : z_at L k = .null)  (kk : z_G b cs D (zX adK adV sb fm) Y p l e Rm s mi args below meth c n0 t0 Q np (L) (.null :: S) (m)) : z_G b cs D (zX adK adV sb fm) Y p l e Rm s mi args below meth c n0 t0 Q pc L (S) m := by
  obtain ⟨o, len, hd, hh⟩ := z_ckd hck
  simp only [z_rel, Bool.and_eq_true, Bool.or_eq_true, beq_iff_eq, decide_eq_true_eq, Bool.not_eq_true'] at hh
  obtain ⟨rfl, hh⟩ := hh
  intro H locs ls cells slots h1 h2 h3 h4 h5 h6
  split at hh
  · simp only [Bool.and_eq_true, beq_iff_eq] at hh
    obtain ⟨rfl, rfl⟩ := hh
    exact lv_aload_nN C.1 C.2.1 hd rfl (z_lget h6 hl rfl) (kk H locs ls cells slots h1 h2 h3 h4 h5 h6)
  · simp only [Bool.and_eq_true, beq_iff_eq] at hh
    obtain ⟨rfl, rfl⟩ := hh
    exact lv_aloadN C.1 C.2.1 hd (z_lget h6 hl rfl) (kk H locs ls cells slots h1 h2 h3 h4 h5 h6)
  · cases hh
theorem zs_aloadx {k v : Nat} (C : z_C x b cs D adK adV sb fm Y p s mi args meth c) (hck : z_ckE Y (pc, .aload k, np, tg) = true) (hl : z_at L k = .retAddr v) (hv : ¬ v = 20) (kk : z_G b cs D (zX adK adV sb fm) Y p l e Rm s mi args below meth c n0 t0 Q np (L) (.retAddr v :: S) (m)) : z_G b cs D (zX adK adV sb fm) Y p l e Rm s mi args below meth c n0 t0 Q pc L (S) m := by
  obtain ⟨o, len, hd, hh⟩ := z_ckd hck
  simp only [z_rel, Bool.and_eq_true, Bool.or_eq_true, beq_iff_eq, decide_eq_true_eq, Bool.not_eq_true'] at hh
  obtain ⟨rfl, hh⟩ := hh
  intro H locs ls cells slots h1 h2 h3 h4 h5 h6
  obtain ⟨a, ha⟩ : ∃ a, zX adK adV sb fm v = .ref a := by
    unfold zX
    split
    · exact ⟨_, rfl⟩
    · split
      · exact ⟨_, rfl⟩
      · first | exact ⟨_, rfl⟩ | (rw [if_neg hv]; exact ⟨_, rfl⟩)
  have g := z_lget h6 hl rfl
  have k9 := (kk H locs ls cells slots h1 h2 h3 h4 h5 h6)
  rw [show zv b (zX adK adV sb fm) (.retAddr v) = .ref a from ha] at g
  rw [List.map_cons, show zv b (zX adK adV sb fm) (.retAddr v) = .ref a from ha] at k9
  split at hh
  · simp only [Bool.and_eq_true, beq_iff_eq] at hh
    obtain ⟨rfl, rfl⟩ := hh
    exact lv_aload_n C.1 C.2.1 hd rfl g k9
  · simp only [Bool.and_eq_true, beq_iff_eq] at hh
    obtain ⟨rfl, rfl⟩ := hh
    exact lv_aload C.1 C.2.1 hd g k9
  · cases hh
theorem zs_istore {k : Nat} {v : Int32} (C : z_C x b cs D adK adV sb fm Y p s mi args meth c) (hck : z_ckE Y (pc, .istore k, np, tg) = true) (hk : k < L.length) (kk : z_G b cs D (zX adK adV sb fm) Y p l e Rm s mi args below meth c n0 t0 Q np (z_s1 L k (.int v)) (S) (m)) : z_G b cs D (zX adK adV sb fm) Y p l e Rm s mi args below meth c n0 t0 Q pc L (.int v :: S) m := by
  obtain ⟨o, len, hd, hh⟩ := z_ckd hck
  simp only [z_rel, Bool.and_eq_true, Bool.or_eq_true, beq_iff_eq, decide_eq_true_eq, Bool.not_eq_true'] at hh
  obtain ⟨rfl, hh⟩ := hh
  intro H locs ls cells slots h1 h2 h3 h4 h5 h6
  split at hh
  · simp only [Bool.and_eq_true, beq_iff_eq] at hh
    obtain ⟨rfl, rfl⟩ := hh
    exact lv_istore_n C.1 C.2.1 hd rfl h6.2 (by have := h6.1; omega) rfl (fun ls' h' => kk H locs ls' cells slots h1 h2 h3 h4 h5 (z_lset1 (z_Xc C) h6.1 hk h'))
  · simp only [Bool.and_eq_true, beq_iff_eq] at hh
    obtain ⟨rfl, rfl⟩ := hh
    exact lv_istore C.1 C.2.1 hd h6.2 (by have := h6.1; omega) rfl (fun ls' h' => kk H locs ls' cells slots h1 h2 h3 h4 h5 (z_lset1 (z_Xc C) h6.1 hk h'))
  · cases hh
theorem zs_lstore {k : Nat} {v : Int64} (C : z_C x b cs D adK adV sb fm Y p s mi args meth c) (hck : z_ckE Y (pc, .lstore k, np, tg) = true) (hk : k + 1 < L.length) (kk : z_G b cs D (zX adK adV sb fm) Y p l e Rm s mi args below meth c n0 t0 Q np (z_s2 L k (.long v)) (S) (m)) : z_G b cs D (zX adK adV sb fm) Y p l e Rm s mi args below meth c n0 t0 Q pc L (.long v :: S) m := by
  obtain ⟨o, len, hd, hh⟩ := z_ckd hck
  simp only [z_rel, Bool.and_eq_true, Bool.or_eq_true, beq_iff_eq, decide_eq_true_eq, Bool.not_eq_true'] at hh
  obtain ⟨rfl, hh⟩ := hh
  intro H locs ls cells slots h1 h2 h3 h4 h5 h6
  split at hh
  · simp only [Bool.and_eq_true, beq_iff_eq] at hh
    obtain ⟨rfl, rfl⟩ := hh
    exact lv_lstore_n C.1 C.2.1 hd rfl h6.2 (by have := h6.1; omega) rfl (fun ls' h' => kk H locs ls' cells slots h1 h2 h3 h4 h5 (z_lset2 (z_Xc C) h6.1 hk h'))
  · simp only [Bool.and_eq_true, beq_iff_eq] at hh
    obtain ⟨rfl, rfl⟩ := hh
    exact lv_lstore C.1 C.2.1 hd h6.2 (by have := h6.1; omega) rfl (fun ls' h' => kk H locs ls' cells slots h1 h2 h3 h4 h5 (z_lset2 (z_Xc C) h6.1 hk h'))
  · cases hh
theorem zs_astore {k v : Nat} (C : z_C x b cs D adK adV sb fm Y p s mi args meth c) (hck : z_ckE Y (pc, .astore k, np, tg) = true) (hk : k < L.length) (kk : z_G b cs D (zX adK adV sb fm) Y p l e Rm s mi args below meth c n0 t0 Q np (z_s1 L k (.ref v)) (S) (m)) : z_G b cs D (zX adK adV sb fm) Y p l e Rm s mi args below meth c n0 t0 Q pc L (.ref v :: S) m := by
  obtain ⟨o, len, hd, hh⟩ := z_ckd hck
  simp only [z_rel, Bool.and_eq_true, Bool.or_eq_true, beq_iff_eq, decide_eq_true_eq, Bool.not_eq_true'] at hh
  obtain ⟨rfl, hh⟩ := hh
  intro H locs ls cells slots h1 h2 h3 h4 h5 h6
  split at hh
  · simp only [Bool.and_eq_true, beq_iff_eq] at hh
    obtain ⟨rfl, rfl⟩ := hh
    exact lv_astore_n C.1 C.2.1 hd rfl h6.2 (by have := h6.1; omega) rfl (fun ls' h' => kk H locs ls' cells slots h1 h2 h3 h4 h5 (z_lset1 (z_Xc C) h6.1 hk h'))
  · simp only [Bool.and_eq_true, beq_iff_eq] at hh
    obtain ⟨rfl, rfl⟩ := hh
    exact lv_astore C.1 C.2.1 hd h6.2 (by have := h6.1; omega) rfl (fun ls' h' => kk H locs ls' cells slots h1 h2 h3 h4 h5 (z_lset1 (z_Xc C) h6.1 hk h'))
  · cases hh
theorem zs_astoren {k : Nat} (C : z_C x b cs D adK adV sb fm Y p s mi args meth c) (hck : z_ckE Y (pc, .astore k, np, tg) = true) (hk : k < L.length) (kk : z_G b cs D (zX adK adV sb fm) Y p l e Rm s mi args below meth c n0 t0 Q np (z_s1 L k (.null)) (S) (m)) : z_G b cs D (zX adK adV sb fm) Y p l e Rm s mi args below meth c n0 t0 Q pc L (.null :: S) m := by
  obtain ⟨o, len, hd, hh⟩ := z_ckd hck
  simp only [z_rel, Bool.and_eq_true, Bool.or_eq_true, beq_iff_eq, decide_eq_true_eq, Bool.not_eq_true'] at hh
  obtain ⟨rfl, hh⟩ := hh
  intro H locs ls cells slots h1 h2 h3 h4 h5 h6
  split at hh
  · simp only [Bool.and_eq_true, beq_iff_eq] at hh
    obtain ⟨rfl, rfl⟩ := hh
    exact lv_astore_nN C.1 C.2.1 hd rfl h6.2 (by have := h6.1; omega) rfl (fun ls' h' => kk H locs ls' cells slots h1 h2 h3 h4 h5 (z_lset1 (z_Xc C) h6.1 hk h'))
  · simp only [Bool.and_eq_true, beq_iff_eq] at hh
    obtain ⟨rfl, rfl⟩ := hh
    exact lv_astoreN C.1 C.2.1 hd h6.2 (by have := h6.1; omega) rfl (fun ls' h' => kk H locs ls' cells slots h1 h2 h3 h4 h5 (z_lset1 (z_Xc C) h6.1 hk h'))
  · cases hh
theorem zs_iinc {k : Nat} {n : Int} {v : Int32} (C : z_C x b cs D adK adV sb fm Y p s mi args meth c) (hck : z_ckE Y (pc, .iinc k n, np, tg) = true) (hl : z_at L k = .int v) (hk : k < L.length) (kk : z_G b cs D (zX adK adV sb fm) Y p l e Rm s mi args below meth c n0 t0 Q np (z_s1 L k (.int (v + Int32.ofInt n))) (S) (m)) : z_G b cs D (zX adK adV sb fm) Y p l e Rm s mi args below meth c n0 t0 Q pc L (S) m := by
  obtain ⟨o, len, hd, hh⟩ := z_ckd hck
  simp only [z_rel, Bool.and_eq_true, Bool.or_eq_true, beq_iff_eq, decide_eq_true_eq, Bool.not_eq_true'] at hh
  obtain ⟨rfl, rfl, rfl⟩ := hh
  intro H locs ls cells slots h1 h2 h3 h4 h5 h6
  have hm : (k, Value.int v) ∈ z_lv b (zX adK adV sb fm) L := z_lv_mem.mpr ⟨hk, by rw [hl]; rfl, by rw [hl]; rfl⟩
  obtain ⟨j, hj⟩ := List.getElem?_of_mem hm
  exact lv_iinc C.1 C.2.1 hd h6.2 hj rfl (by have := h6.1; omega) rfl (fun ls' h' => kk H locs ls' cells slots h1 h2 h3 h4 h5 (z_lset1 (z_Xc C) h6.1 hk h'))
theorem zs_ifCond {cd : ClassFile.Cond} {f0 : Int} {u : Int32} (C : z_C x b cs D adK adV sb fm Y p s mi args meth c) (hck : z_ckE Y (pc, .ifCond cd f0, np, tg) = true) (kt : z_cond cd u 0 = true → z_G b cs D (zX adK adV sb fm) Y p l e Rm s mi args below meth c n0 t0 Q tg L S m) (kf : z_cond cd u 0 = false → z_G b cs D (zX adK adV sb fm) Y p l e Rm s mi args below meth c n0 t0 Q np L S m) : z_G b cs D (zX adK adV sb fm) Y p l e Rm s mi args below meth c n0 t0 Q pc L (.int u :: S) m := by
  obtain ⟨o, len, hd, hh⟩ := z_ckd hck
  simp only [z_rel, Bool.and_eq_true, Bool.or_eq_true, beq_iff_eq, decide_eq_true_eq, Bool.not_eq_true'] at hh
  obtain ⟨rfl, hh⟩ := hh
  intro H locs ls cells slots h1 h2 h3 h4 h5 h6
  split at hh
  · rename_i cd' f'
    simp only [Bool.and_eq_true, beq_iff_eq, decide_eq_true_eq] at hh
    obtain ⟨⟨rfl, hc⟩, ht⟩ := hh
    have hc : cd = cd' := by cases cd <;> cases cd' <;> first | rfl | cases hc
    subst hc
    cases cd
    · exact lv_if_eq C.1 C.2.1 hd ht (fun h => kt (by simp [z_cond, h]) H locs ls cells slots h1 h2 h3 h4 h5 h6) (fun h => kf (by simp [z_cond, h]) H locs ls cells slots h1 h2 h3 h4 h5 h6)
    · exact lv_if_ne C.1 C.2.1 hd ht (fun h => kt (by simp [z_cond, h]) H locs ls cells slots h1 h2 h3 h4 h5 h6) (fun h => kf (by simp [z_cond, h]) H locs ls cells slots h1 h2 h3 h4 h5 h6)
    · exact lv_if_lt C.1 C.2.1 hd ht (fun h => kt (by simp [z_cond, h]) H locs ls cells slots h1 h2 h3 h4 h5 h6) (fun h => kf (by simp [z_cond, h]) H locs ls cells slots h1 h2 h3 h4 h5 h6)
    · exact lv_if_ge C.1 C.2.1 hd ht (fun h => kt (by simp [z_cond, h]) H locs ls cells slots h1 h2 h3 h4 h5 h6) (fun h => kf (by simp [z_cond, h]) H locs ls cells slots h1 h2 h3 h4 h5 h6)
    · exact lv_if_gt C.1 C.2.1 hd ht (fun h => kt (by simp [z_cond, h]) H locs ls cells slots h1 h2 h3 h4 h5 h6) (fun h => kf (by simp [z_cond, h]) H locs ls cells slots h1 h2 h3 h4 h5 h6)
    · exact lv_if_le C.1 C.2.1 hd ht (fun h => kt (by simp [z_cond, h]) H locs ls cells slots h1 h2 h3 h4 h5 h6) (fun h => kf (by simp [z_cond, h]) H locs ls cells slots h1 h2 h3 h4 h5 h6)
  · cases hh
theorem zs_if_icmp {cd : ClassFile.Cond} {f0 : Int} {u v : Int32} (C : z_C x b cs D adK adV sb fm Y p s mi args meth c) (hck : z_ckE Y (pc, .if_icmp cd f0, np, tg) = true) (kt : z_cond cd u v = true → z_G b cs D (zX adK adV sb fm) Y p l e Rm s mi args below meth c n0 t0 Q tg L S m) (kf : z_cond cd u v = false → z_G b cs D (zX adK adV sb fm) Y p l e Rm s mi args below meth c n0 t0 Q np L S m) : z_G b cs D (zX adK adV sb fm) Y p l e Rm s mi args below meth c n0 t0 Q pc L (.int v :: .int u :: S) m := by
  obtain ⟨o, len, hd, hh⟩ := z_ckd hck
  simp only [z_rel, Bool.and_eq_true, Bool.or_eq_true, beq_iff_eq, decide_eq_true_eq, Bool.not_eq_true'] at hh
  obtain ⟨rfl, hh⟩ := hh
  intro H locs ls cells slots h1 h2 h3 h4 h5 h6
  split at hh
  · rename_i cd' f'
    simp only [Bool.and_eq_true, beq_iff_eq, decide_eq_true_eq] at hh
    obtain ⟨⟨rfl, hc⟩, ht⟩ := hh
    have hc : cd = cd' := by cases cd <;> cases cd' <;> first | rfl | cases hc
    subst hc
    cases cd
    · exact lv_icmp_eq C.1 C.2.1 hd ht (fun h => kt (by simp [z_cond, h]) H locs ls cells slots h1 h2 h3 h4 h5 h6) (fun h => kf (by simp [z_cond, h]) H locs ls cells slots h1 h2 h3 h4 h5 h6)
    · exact lv_icmp_ne C.1 C.2.1 hd ht (fun h => kt (by simp [z_cond, h]) H locs ls cells slots h1 h2 h3 h4 h5 h6) (fun h => kf (by simp [z_cond, h]) H locs ls cells slots h1 h2 h3 h4 h5 h6)
    · exact lv_icmp_lt C.1 C.2.1 hd ht (fun h => kt (by simp [z_cond, h]) H locs ls cells slots h1 h2 h3 h4 h5 h6) (fun h => kf (by simp [z_cond, h]) H locs ls cells slots h1 h2 h3 h4 h5 h6)
    · exact lv_icmp_ge C.1 C.2.1 hd ht (fun h => kt (by simp [z_cond, h]) H locs ls cells slots h1 h2 h3 h4 h5 h6) (fun h => kf (by simp [z_cond, h]) H locs ls cells slots h1 h2 h3 h4 h5 h6)
    · exact lv_icmp_gt C.1 C.2.1 hd ht (fun h => kt (by simp [z_cond, h]) H locs ls cells slots h1 h2 h3 h4 h5 h6) (fun h => kf (by simp [z_cond, h]) H locs ls cells slots h1 h2 h3 h4 h5 h6)
    · exact lv_icmp_le C.1 C.2.1 hd ht (fun h => kt (by simp [z_cond, h]) H locs ls cells slots h1 h2 h3 h4 h5 h6) (fun h => kf (by simp [z_cond, h]) H locs ls cells slots h1 h2 h3 h4 h5 h6)
  · cases hh
theorem zs_ifnulln {f0 : Int}  (C : z_C x b cs D adK adV sb fm Y p s mi args meth c) (hck : z_ckE Y (pc, .ifnull f0, np, tg) = true) (kk : z_G b cs D (zX adK adV sb fm) Y p l e Rm s mi args below meth c n0 t0 Q tg L S m) : z_G b cs D (zX adK adV sb fm) Y p l e Rm s mi args below meth c n0 t0 Q pc L (.null :: S) m := by
  obtain ⟨o, len, hd, hh⟩ := z_ckd hck
  simp only [z_rel, Bool.and_eq_true, Bool.or_eq_true, beq_iff_eq, decide_eq_true_eq, Bool.not_eq_true'] at hh
  obtain ⟨rfl, hh⟩ := hh
  intro H locs ls cells slots h1 h2 h3 h4 h5 h6
  split at hh
  · simp only [Bool.and_eq_true, beq_iff_eq, decide_eq_true_eq] at hh
    obtain ⟨rfl, ht⟩ := hh
    exact lv_ifnullN C.1 C.2.1 hd ht (kk H locs ls cells slots h1 h2 h3 h4 h5 h6)
  · cases hh
theorem zs_ifnullr {f0 : Int} {v : Nat} (C : z_C x b cs D adK adV sb fm Y p s mi args meth c) (hck : z_ckE Y (pc, .ifnull f0, np, tg) = true) (kk : z_G b cs D (zX adK adV sb fm) Y p l e Rm s mi args below meth c n0 t0 Q np L S m) : z_G b cs D (zX adK adV sb fm) Y p l e Rm s mi args below meth c n0 t0 Q pc L (.ref v :: S) m := by
  obtain ⟨o, len, hd, hh⟩ := z_ckd hck
  simp only [z_rel, Bool.and_eq_true, Bool.or_eq_true, beq_iff_eq, decide_eq_true_eq, Bool.not_eq_true'] at hh
  obtain ⟨rfl, hh⟩ := hh
  intro H locs ls cells slots h1 h2 h3 h4 h5 h6
  split at hh
  · simp only [Bool.and_eq_true, beq_iff_eq, decide_eq_true_eq] at hh
    obtain ⟨rfl, ht⟩ := hh
    exact lv_ifnull C.1 C.2.1 hd (kk H locs ls cells slots h1 h2 h3 h4 h5 h6)
  · cases hh
theorem zs_ifnonnulln {f0 : Int}  (C : z_C x b cs D adK adV sb fm Y p s mi args meth c) (hck : z_ckE Y (pc, .ifnonnull f0, np, tg) = true) (kk : z_G b cs D (zX adK adV sb fm) Y p l e Rm s mi args below meth c n0 t0 Q np L S m) : z_G b cs D (zX adK adV sb fm) Y p l e Rm s mi args below meth c n0 t0 Q pc L (.null :: S) m := by
  obtain ⟨o, len, hd, hh⟩ := z_ckd hck
  simp only [z_rel, Bool.and_eq_true, Bool.or_eq_true, beq_iff_eq, decide_eq_true_eq, Bool.not_eq_true'] at hh
  obtain ⟨rfl, hh⟩ := hh
  intro H locs ls cells slots h1 h2 h3 h4 h5 h6
  split at hh
  · simp only [Bool.and_eq_true, beq_iff_eq, decide_eq_true_eq] at hh
    obtain ⟨rfl, ht⟩ := hh
    exact lv_ifnonnullN C.1 C.2.1 hd (kk H locs ls cells slots h1 h2 h3 h4 h5 h6)
  · cases hh
theorem zs_ifnonnullr {f0 : Int} {v : Nat} (C : z_C x b cs D adK adV sb fm Y p s mi args meth c) (hck : z_ckE Y (pc, .ifnonnull f0, np, tg) = true) (kk : z_G b cs D (zX adK adV sb fm) Y p l e Rm s mi args below meth c n0 t0 Q tg L S m) : z_G b cs D (zX adK adV sb fm) Y p l e Rm s mi args below meth c n0 t0 Q pc L (.ref v :: S) m := by
  obtain ⟨o, len, hd, hh⟩ := z_ckd hck
  simp only [z_rel, Bool.and_eq_true, Bool.or_eq_true, beq_iff_eq, decide_eq_true_eq, Bool.not_eq_true'] at hh
  obtain ⟨rfl, hh⟩ := hh
  intro H locs ls cells slots h1 h2 h3 h4 h5 h6
  split at hh
  · simp only [Bool.and_eq_true, beq_iff_eq, decide_eq_true_eq] at hh
    obtain ⟨rfl, ht⟩ := hh
    exact lv_ifnonnull C.1 C.2.1 hd ht (kk H locs ls cells slots h1 h2 h3 h4 h5 h6)
  · cases hh
theorem zs_goto {f0 : Int} (C : z_C x b cs D adK adV sb fm Y p s mi args meth c) (hck : z_ckE Y (pc, .goto f0, np, tg) = true) (kk : z_G b cs D (zX adK adV sb fm) Y p l e Rm s mi args below meth c n0 t0 Q tg L S m) : z_G b cs D (zX adK adV sb fm) Y p l e Rm s mi args below meth c n0 t0 Q pc L S m := by
  obtain ⟨o, len, hd, hh⟩ := z_ckd hck
  simp only [z_rel, Bool.and_eq_true, Bool.or_eq_true, beq_iff_eq, decide_eq_true_eq, Bool.not_eq_true'] at hh
  obtain ⟨rfl, hh⟩ := hh
  intro H locs ls cells slots h1 h2 h3 h4 h5 h6
  split at hh
  · simp only [Bool.and_eq_true, beq_iff_eq, decide_eq_true_eq] at hh
    obtain ⟨rfl, ht⟩ := hh
    exact lv_goto C.1 C.2.1 hd ht (kk H locs ls cells slots h1 h2 h3 h4 h5 h6)
  · cases hh
theorem zs_tsw {d0 lo hi : Int} {offs : Array Int} {u : Int32} (C : z_C x b cs D adK adV sb fm Y p s mi args meth c) (hck : z_ckE Y (pc, .tableswitch d0 lo hi offs, np, tg) = true) (ko : u.toInt < lo ∨ hi < u.toInt → z_G b cs D (zX adK adV sb fm) Y p l e Rm s mi args below meth c n0 t0 Q tg L S m) (ki : ∀ o : Int, ¬ (u.toInt < lo ∨ hi < u.toInt) → offs[(u.toInt - lo).toNat]? = some o → z_G b cs D (zX adK adV sb fm) Y p l e Rm s mi args below meth c n0 t0 Q o.toNat L S m) (hin : ¬ (u.toInt < lo ∨ hi < u.toInt) → ∃ o, offs[(u.toInt - lo).toNat]? = some o) : z_G b cs D (zX adK adV sb fm) Y p l e Rm s mi args below meth c n0 t0 Q pc L (.int u :: S) m := by
  obtain ⟨o, len, hd, hh⟩ := z_ckd hck
  simp only [z_rel, Bool.and_eq_true, Bool.or_eq_true, beq_iff_eq, decide_eq_true_eq, Bool.not_eq_true'] at hh
  obtain ⟨rfl, hh⟩ := hh
  intro H locs ls cells slots h1 h2 h3 h4 h5 h6
  split at hh
  · rename_i d' lo' hi' offs'
    simp only [Bool.and_eq_true, beq_iff_eq, decide_eq_true_eq] at hh
    obtain ⟨⟨⟨⟨rfl, rfl⟩, ht⟩, hoff⟩, hpos⟩ := hh
    by_cases h : u.toInt < lo ∨ hi < u.toInt
    · exact lv_tableOut C.1 C.2.1 hd h ht (ko h H locs ls cells slots h1 h2 h3 h4 h5 h6)
    · obtain ⟨o1, ho1⟩ := hin h
      have hl : offs.toList[(u.toInt - lo).toNat]? = some o1 := by rw [Array.getElem?_toList]; exact ho1
      have h0 : 0 ≤ o1 := by
        have := List.all_eq_true.mp hpos o1 (List.mem_of_getElem? hl)
        simpa using this
      rw [hoff, List.getElem?_map] at hl
      cases h9 : offs'.toList[(u.toInt - lo).toNat]? with
      | none => rw [h9] at hl; cases hl
      | some f =>
        rw [h9] at hl
        have e := Option.some.inj hl
        refine lv_tableIn (off := f) (tgt := o1.toNat) C.1 C.2.1 hd (fun z => h (Or.inl z)) (fun z => h (Or.inr z)) (by rw [← Array.getElem?_toList]; exact h9) (by have e : (pc : Int) + f = o1 := e; omega) (ki o1 h ho1 H locs ls cells slots h1 h2 h3 h4 h5 h6)
  · cases hh
theorem z_fs_set {n k : Nat} {f g : Nat → Value} {w : Value} (h : ∀ j, j ≠ k → g j = f j) (hk : g k = w) : (List.range n).map g = ((List.range n).map f).set k w := by
  apply List.ext_getElem?
  intro i
  by_cases hi : i < n
  · by_cases hik : i = k
    · subst hik
      rw [List.getElem?_set_self (by simpa using hi)]
      simp [hi, hk]
    · rw [List.getElem?_set_ne (fun z => hik z.symm)]
      simp [hi, h i hik]
  · rw [List.getElem?_eq_none (by simp; omega), List.getElem?_eq_none (by simp; omega)]
theorem z_refty {t : FieldType} {v : Value} (h : refKind t = true) (hv : v = .null ∨ ∃ a, v = .ref a) : narrow t v = v ∧ fits t v = true := by
  rcases hv with rfl | ⟨a, rfl⟩ <;> cases t <;> first | exact ⟨rfl, rfl⟩ | cases h
theorem zs_getI {cl q : Nat} (C : z_C x b cs D adK adV sb fm Y p s mi args meth c) (hck : z_ckE Y (pc, .getfield cl, np, tg) = true) (hp : q < zn m) (hK : zK m q = cl) (ht : tg < zN m q) (kk : z_G b cs D (zX adK adV sb fm) Y p l e Rm s mi args below meth c n0 t0 Q np L (.int (zI m q tg) :: S) m) : z_G b cs D (zX adK adV sb fm) Y p l e Rm s mi args below meth c n0 t0 Q pc L (.ref q :: S) m := by
  obtain ⟨o, len, hd, hh⟩ := z_ckd hck
  simp only [z_rel, Bool.and_eq_true, Bool.or_eq_true, beq_iff_eq, decide_eq_true_eq, Bool.not_eq_true'] at hh
  obtain ⟨rfl, hh⟩ := hh
  intro H locs ls cells slots h1 h2 h3 h4 h5 h6
  split at hh
  · simp only [Bool.and_eq_true, Bool.or_eq_true, beq_iff_eq, decide_eq_true_eq, Bool.not_eq_true'] at hh
    obtain ⟨⟨rfl, hfl⟩, hr⟩ := hh
    obtain ⟨hw, hc, hk, hT1⟩ := z_fl_ok hfl
    simp only at hw hc hk hT1
    have he : (z_ws b cs m)[q]? = some (b + q, .inr (cl, (List.range (zN m q)).map (z_fv b m q))) := by rw [z_ws_at hp, z_e_o hc hK]
    obtain ⟨hty, hnm, hkd⟩ := z_ty_ok hc hk
    have e9 : z_fv b m q tg = .int (zI m q tg) := by unfold z_fv; rw [hK, hr]; rfl
    exact va_get (ci := cl) (C := z_cn cl) (T := z_Ts cl) (N := z_fn cl) (v := .int (zI m q tg)) C.1 C.2.1 C.2.2.2.2.1 (z_ly_ok hc) C.2.2.2.1 C.2.2.2.2.2.1 h3 q he (z_vw hc) tg hk (C.2.2.2.2.1 _ hw) (fun y hy => by rw [hT1] at hy; exact hy) (by simp [ht, e9]) hd (kk H locs ls cells slots h1 h2 h3 h4 h5 h6)
  · cases hh
theorem zs_getR {cl q : Nat} (C : z_C x b cs D adK adV sb fm Y p s mi args meth c) (hck : z_ckE Y (pc, .instanceof cl, np, tg) = true) (hp : q < zn m) (hK : zK m q = cl) (ht : tg < zN m q) (kk : z_G b cs D (zX adK adV sb fm) Y p l e Rm s mi args below meth c n0 t0 Q np L (va_rf (zR m q tg) :: S) m) : z_G b cs D (zX adK adV sb fm) Y p l e Rm s mi args below meth c n0 t0 Q pc L (.ref q :: S) m := by
  obtain ⟨o, len, hd, hh⟩ := z_ckd hck
  simp only [z_rel, Bool.and_eq_true, Bool.or_eq_true, beq_iff_eq, decide_eq_true_eq, Bool.not_eq_true'] at hh
  obtain ⟨rfl, hh⟩ := hh
  intro H locs ls cells slots h1 h2 h3 h4 h5 h6
  split at hh
  · simp only [Bool.and_eq_true, Bool.or_eq_true, beq_iff_eq, decide_eq_true_eq, Bool.not_eq_true'] at hh
    obtain ⟨⟨rfl, hfl⟩, hr⟩ := hh
    obtain ⟨hw, hc, hk, hT1⟩ := z_fl_ok hfl
    simp only at hw hc hk hT1
    have he : (z_ws b cs m)[q]? = some (b + q, .inr (cl, (List.range (zN m q)).map (z_fv b m q))) := by rw [z_ws_at hp, z_e_o hc hK]
    obtain ⟨hty, hnm, hkd⟩ := z_ty_ok hc hk
    have k9 := (kk H locs ls cells slots h1 h2 h3 h4 h5 h6)
    rw [List.map_cons, zv_rf] at k9
    have e9 : z_fv b m q tg = va_rf ((zR m q tg).map (b + ·)) := by unfold z_fv; rw [hK, hr]; rfl
    exact va_get (ci := cl) (C := z_cn cl) (T := z_Ts cl) (N := z_fn cl) (v := va_rf ((zR m q tg).map (b + ·))) C.1 C.2.1 C.2.2.2.2.1 (z_ly_ok hc) C.2.2.2.1 C.2.2.2.2.2.1 h3 q he (z_vw hc) tg hk (C.2.2.2.2.1 _ hw) (fun y hy => by rw [hT1] at hy; exact hy) (by simp [ht, e9]) hd k9
  · cases hh
theorem zs_putI {cl q : Nat} {v : Int32} (C : z_C x b cs D adK adV sb fm Y p s mi args meth c) (hck : z_ckE Y (pc, .putfield cl, np, tg) = true) (hp : q < zn m) (hK : zK m q = cl) (ht : tg < zN m q)  (kk : z_G b cs D (zX adK adV sb fm) Y p l e Rm s mi args below meth c n0 t0 Q np L S (sI m q tg v)) : z_G b cs D (zX adK adV sb fm) Y p l e Rm s mi args below meth c n0 t0 Q pc L (.int v :: .ref q :: S) m := by
  obtain ⟨o, len, hd, hh⟩ := z_ckd hck
  simp only [z_rel, Bool.and_eq_true, Bool.or_eq_true, beq_iff_eq, decide_eq_true_eq, Bool.not_eq_true'] at hh
  obtain ⟨rfl, hh⟩ := hh
  intro H locs ls cells slots h1 h2 h3 h4 h5 h6
  split at hh
  · simp only [Bool.and_eq_true, Bool.or_eq_true, beq_iff_eq, decide_eq_true_eq, Bool.not_eq_true'] at hh
    obtain ⟨⟨⟨⟨rfl, hfl⟩, hr⟩, hz⟩, hf⟩ := hh
    obtain ⟨hw, hc, hk, hT1⟩ := z_fl_ok hfl
    simp only at hw hc hk hT1
    have he : (z_ws b cs m)[q]? = some (b + q, .inr (cl, (List.range (zN m q)).map (z_fv b m q))) := by rw [z_ws_at hp, z_e_o hc hK]
    obtain ⟨hty, hnm, hkd⟩ := z_ty_ok hc hk
    rw [hr, hz] at hkd
    simp only [if_false, if_true, decide_eq_true_eq, Bool.false_eq_true] at hkd
    exact va_put (ci := cl) (C := z_cn cl) (T := z_Ts cl) (N := z_fn cl) (v := .int v) C.1 C.2.1 C.2.2.2.2.1 (z_ly_ok hc) (z_tyX cl) (fun k9 hk9 => (z_ty_ok hc hk9).1) (fun a9 ha9 b9 hb9 hn9 => (z_ty_ok hc ha9).2.1 b9 hb9 hn9) C.2.2.2.1 C.2.2.2.2.2.1 h3 z_D h5 q he (z_vw hc) tg hk (C.2.2.2.2.1 _ hw) (fun y hy => by rw [hT1] at hy; exact hy) hf hty (by rw [hkd]; rfl) (by rw [hkd]; rfl) (by simpa using ht) hd (fun H1 locs1 hP1 hD1 hS1 => kk H1 locs1 ls cells slots h1 h2 (by
      have e : z_ws b cs (sI m q tg v) = (z_ws b cs m).set q (b + q, .inr (cl, ((List.range (zN m q)).map (z_fv b m q)).set tg (.int v))) := by
        rw [z_ws_set (m := m) (m' := sI m q tg v) q rfl hp (fun j hj => z_e_cong (z_u_ne hj) rfl rfl rfl rfl), z_e_o (m := sI m q tg v) hc hK]
        congr 4
        exact z_fs_set (fun j hj => by simp [z_fv, sI, zI, zR, zK, z_u, hj]) (by simp only [z_fv]; rw [show zK (sI m q tg v) q = cl from hK, hr]; simp [zI, sI, z_u])
      rw [e]
      exact hP1) (fun p9 g1 => h4 p9 g1) hS1 h6)
  · cases hh
theorem zs_putZ {cl q : Nat} {v : Int32} (C : z_C x b cs D adK adV sb fm Y p s mi args meth c) (hck : z_ckE Y (pc, .ldc_w cl, np, tg) = true) (hp : q < zn m) (hK : zK m q = cl) (ht : tg < zN m q) (hv : v = 0 ∨ v = 1) (kk : z_G b cs D (zX adK adV sb fm) Y p l e Rm s mi args below meth c n0 t0 Q np L S (sI m q tg v)) : z_G b cs D (zX adK adV sb fm) Y p l e Rm s mi args below meth c n0 t0 Q pc L (.int v :: .ref q :: S) m := by
  obtain ⟨o, len, hd, hh⟩ := z_ckd hck
  simp only [z_rel, Bool.and_eq_true, Bool.or_eq_true, beq_iff_eq, decide_eq_true_eq, Bool.not_eq_true'] at hh
  obtain ⟨rfl, hh⟩ := hh
  intro H locs ls cells slots h1 h2 h3 h4 h5 h6
  split at hh
  · simp only [Bool.and_eq_true, Bool.or_eq_true, beq_iff_eq, decide_eq_true_eq, Bool.not_eq_true'] at hh
    obtain ⟨⟨⟨⟨rfl, hfl⟩, hr⟩, hz⟩, hf⟩ := hh
    obtain ⟨hw, hc, hk, hT1⟩ := z_fl_ok hfl
    simp only at hw hc hk hT1
    have he : (z_ws b cs m)[q]? = some (b + q, .inr (cl, (List.range (zN m q)).map (z_fv b m q))) := by rw [z_ws_at hp, z_e_o hc hK]
    obtain ⟨hty, hnm, hkd⟩ := z_ty_ok hc hk
    rw [hr, hz] at hkd
    simp only [if_false, if_true, decide_eq_true_eq, Bool.false_eq_true] at hkd
    exact va_put (ci := cl) (C := z_cn cl) (T := z_Ts cl) (N := z_fn cl) (v := .int v) C.1 C.2.1 C.2.2.2.2.1 (z_ly_ok hc) (z_tyX cl) (fun k9 hk9 => (z_ty_ok hc hk9).1) (fun a9 ha9 b9 hb9 hn9 => (z_ty_ok hc ha9).2.1 b9 hb9 hn9) C.2.2.2.1 C.2.2.2.2.2.1 h3 z_D h5 q he (z_vw hc) tg hk (C.2.2.2.2.1 _ hw) (fun y hy => by rw [hT1] at hy; exact hy) hf hty (by rw [hkd]; rcases hv with rfl | rfl <;> rfl) (by rw [hkd]; rcases hv with rfl | rfl <;> rfl) (by simpa using ht) hd (fun H1 locs1 hP1 hD1 hS1 => kk H1 locs1 ls cells slots h1 h2 (by
      have e : z_ws b cs (sI m q tg v) = (z_ws b cs m).set q (b + q, .inr (cl, ((List.range (zN m q)).map (z_fv b m q)).set tg (.int v))) := by
        rw [z_ws_set (m := m) (m' := sI m q tg v) q rfl hp (fun j hj => z_e_cong (z_u_ne hj) rfl rfl rfl rfl), z_e_o (m := sI m q tg v) hc hK]
        congr 4
        exact z_fs_set (fun j hj => by simp [z_fv, sI, zI, zR, zK, z_u, hj]) (by simp only [z_fv]; rw [show zK (sI m q tg v) q = cl from hK, hr]; simp [zI, sI, z_u])
      rw [e]
      exact hP1) (fun p9 g1 => h4 p9 g1) hS1 h6)
  · cases hh
theorem zs_putR {cl q : Nat} {v : Nat} (C : z_C x b cs D adK adV sb fm Y p s mi args meth c) (hck : z_ckE Y (pc, .putstatic cl, np, tg) = true) (hp : q < zn m) (hK : zK m q = cl) (ht : tg < zN m q) (kk : z_G b cs D (zX adK adV sb fm) Y p l e Rm s mi args below meth c n0 t0 Q np L S (sR m q tg (some v))) : z_G b cs D (zX adK adV sb fm) Y p l e Rm s mi args below meth c n0 t0 Q pc L (.ref v :: .ref q :: S) m := by
  obtain ⟨o, len, hd, hh⟩ := z_ckd hck
  simp only [z_rel, Bool.and_eq_true, Bool.or_eq_true, beq_iff_eq, decide_eq_true_eq, Bool.not_eq_true'] at hh
  obtain ⟨rfl, hh⟩ := hh
  intro H locs ls cells slots h1 h2 h3 h4 h5 h6
  split at hh
  · simp only [Bool.and_eq_true, Bool.or_eq_true, beq_iff_eq, decide_eq_true_eq, Bool.not_eq_true'] at hh
    obtain ⟨⟨⟨rfl, hfl⟩, hr⟩, hf⟩ := hh
    obtain ⟨hw, hc, hk, hT1⟩ := z_fl_ok hfl
    simp only at hw hc hk hT1
    have he : (z_ws b cs m)[q]? = some (b + q, .inr (cl, (List.range (zN m q)).map (z_fv b m q))) := by rw [z_ws_at hp, z_e_o hc hK]
    obtain ⟨hty, hnm, hkd⟩ := z_ty_ok hc hk
    rw [hr] at hkd
    simp only [if_true] at hkd
    obtain ⟨hnar, hfit⟩ := z_refty (v := zv b (zX adK adV sb fm) (.ref v)) hkd (Or.inr ⟨_, rfl⟩)
    rcases hf with hf | ⟨hi, hf2⟩
    · exact va_put (ci := cl) (C := z_cn cl) (T := z_Ts cl) (N := z_fn cl) (v := zv b (zX adK adV sb fm) (.ref v)) C.1 C.2.1 C.2.2.2.2.1 (z_ly_ok hc) (z_tyX cl) (fun k9 hk9 => (z_ty_ok hc hk9).1) (fun a9 ha9 b9 hb9 hn9 => (z_ty_ok hc ha9).2.1 b9 hb9 hn9) C.2.2.2.1 C.2.2.2.2.2.1 h3 z_D h5 q he (z_vw hc) tg hk (C.2.2.2.2.1 _ hw) (fun y hy => by rw [hT1] at hy; exact hy) hf hty hnar hfit (by simpa using ht) hd (fun H1 locs1 hP1 hD1 hS1 => kk H1 locs1 ls cells slots h1 h2 (by
        have e : z_ws b cs (sR m q tg (some v)) = (z_ws b cs m).set q (b + q, .inr (cl, ((List.range (zN m q)).map (z_fv b m q)).set tg (zv b (zX adK adV sb fm) (.ref v)))) := by
          rw [z_ws_set (m := m) (m' := sR m q tg (some v)) q rfl hp (fun j hj => z_e_cong rfl rfl (z_u_ne hj) rfl rfl), z_e_o (m := sR m q tg (some v)) hc hK]
          congr 4
          exact z_fs_set (fun j hj => by simp [z_fv, sR, zI, zR, zK, z_u, hj]) (by simp only [z_fv]; rw [show zK (sR m q tg (some v)) q = cl from hK, hr]; simp [zR, sR, z_u, va_rf, zv])
        rw [e]
        exact hP1) (fun p9 g1 => h4 p9 g1) hS1 h6)
    · cases hfin : (z_Ts cl tg).2.2.2 with
      | false =>
        exact va_put (ci := cl) (C := z_cn cl) (T := z_Ts cl) (N := z_fn cl) (v := zv b (zX adK adV sb fm) (.ref v)) C.1 C.2.1 C.2.2.2.2.1 (z_ly_ok hc) (z_tyX cl) (fun k9 hk9 => (z_ty_ok hc hk9).1) (fun a9 ha9 b9 hb9 hn9 => (z_ty_ok hc ha9).2.1 b9 hb9 hn9) C.2.2.2.1 C.2.2.2.2.2.1 h3 z_D h5 q he (z_vw hc) tg hk (C.2.2.2.2.1 _ hw) (fun y hy => by rw [hT1] at hy; exact hy) hfin hty hnar hfit (by simpa using ht) hd (fun H1 locs1 hP1 hD1 hS1 => kk H1 locs1 ls cells slots h1 h2 (by
        have e : z_ws b cs (sR m q tg (some v)) = (z_ws b cs m).set q (b + q, .inr (cl, ((List.range (zN m q)).map (z_fv b m q)).set tg (zv b (zX adK adV sb fm) (.ref v)))) := by
          rw [z_ws_set (m := m) (m' := sR m q tg (some v)) q rfl hp (fun j hj => z_e_cong rfl rfl (z_u_ne hj) rfl rfl), z_e_o (m := sR m q tg (some v)) hc hK]
          congr 4
          exact z_fs_set (fun j hj => by simp [z_fv, sR, zI, zR, zK, z_u, hj]) (by simp only [z_fv]; rw [show zK (sR m q tg (some v)) q = cl from hK, hr]; simp [zR, sR, z_u, va_rf, zv])
        rw [e]
        exact hP1) (fun p9 g1 => h4 p9 g1) hS1 h6)
      | true =>
        exact va_putF (ci := cl) (C := z_cn cl) (T := z_Ts cl) (N := z_fn cl) (v := zv b (zX adK adV sb fm) (.ref v)) C.1 C.2.1 C.2.2.2.2.1 (z_ly_ok hc) (z_tyX cl) (fun k9 hk9 => (z_ty_ok hc hk9).1) (fun a9 ha9 b9 hb9 hn9 => (z_ty_ok hc ha9).2.1 b9 hb9 hn9) C.2.2.2.1 C.2.2.2.2.2.1 h3 z_D h5 q he (z_vw hc) tg hk (C.2.2.2.2.1 _ hw) (fun y hy => by rw [hT1] at hy; exact hy) hfin (C.2.2.2.2.2.2.2.1 hi) hf2.symm hty hnar hfit (by simpa using ht) hd (fun H1 locs1 hP1 hD1 hS1 => kk H1 locs1 ls cells slots h1 h2 (by
        have e : z_ws b cs (sR m q tg (some v)) = (z_ws b cs m).set q (b + q, .inr (cl, ((List.range (zN m q)).map (z_fv b m q)).set tg (zv b (zX adK adV sb fm) (.ref v)))) := by
          rw [z_ws_set (m := m) (m' := sR m q tg (some v)) q rfl hp (fun j hj => z_e_cong rfl rfl (z_u_ne hj) rfl rfl), z_e_o (m := sR m q tg (some v)) hc hK]
          congr 4
          exact z_fs_set (fun j hj => by simp [z_fv, sR, zI, zR, zK, z_u, hj]) (by simp only [z_fv]; rw [show zK (sR m q tg (some v)) q = cl from hK, hr]; simp [zR, sR, z_u, va_rf, zv])
        rw [e]
        exact hP1) (fun p9 g1 => h4 p9 g1) hS1 h6)
  · cases hh
theorem zs_putN {cl q : Nat}  (C : z_C x b cs D adK adV sb fm Y p s mi args meth c) (hck : z_ckE Y (pc, .putstatic cl, np, tg) = true) (hp : q < zn m) (hK : zK m q = cl) (ht : tg < zN m q) (kk : z_G b cs D (zX adK adV sb fm) Y p l e Rm s mi args below meth c n0 t0 Q np L S (sR m q tg (none))) : z_G b cs D (zX adK adV sb fm) Y p l e Rm s mi args below meth c n0 t0 Q pc L (.null :: .ref q :: S) m := by
  obtain ⟨o, len, hd, hh⟩ := z_ckd hck
  simp only [z_rel, Bool.and_eq_true, Bool.or_eq_true, beq_iff_eq, decide_eq_true_eq, Bool.not_eq_true'] at hh
  obtain ⟨rfl, hh⟩ := hh
  intro H locs ls cells slots h1 h2 h3 h4 h5 h6
  split at hh
  · simp only [Bool.and_eq_true, Bool.or_eq_true, beq_iff_eq, decide_eq_true_eq, Bool.not_eq_true'] at hh
    obtain ⟨⟨⟨rfl, hfl⟩, hr⟩, hf⟩ := hh
    obtain ⟨hw, hc, hk, hT1⟩ := z_fl_ok hfl
    simp only at hw hc hk hT1
    have he : (z_ws b cs m)[q]? = some (b + q, .inr (cl, (List.range (zN m q)).map (z_fv b m q))) := by rw [z_ws_at hp, z_e_o hc hK]
    obtain ⟨hty, hnm, hkd⟩ := z_ty_ok hc hk
    rw [hr] at hkd
    simp only [if_true] at hkd
    obtain ⟨hnar, hfit⟩ := z_refty (v := zv b (zX adK adV sb fm) (.null)) hkd (Or.inl rfl)
    rcases hf with hf | ⟨hi, hf2⟩
    · exact va_put (ci := cl) (C := z_cn cl) (T := z_Ts cl) (N := z_fn cl) (v := zv b (zX adK adV sb fm) (.null)) C.1 C.2.1 C.2.2.2.2.1 (z_ly_ok hc) (z_tyX cl) (fun k9 hk9 => (z_ty_ok hc hk9).1) (fun a9 ha9 b9 hb9 hn9 => (z_ty_ok hc ha9).2.1 b9 hb9 hn9) C.2.2.2.1 C.2.2.2.2.2.1 h3 z_D h5 q he (z_vw hc) tg hk (C.2.2.2.2.1 _ hw) (fun y hy => by rw [hT1] at hy; exact hy) hf hty hnar hfit (by simpa using ht) hd (fun H1 locs1 hP1 hD1 hS1 => kk H1 locs1 ls cells slots h1 h2 (by
        have e : z_ws b cs (sR m q tg (none)) = (z_ws b cs m).set q (b + q, .inr (cl, ((List.range (zN m q)).map (z_fv b m q)).set tg (zv b (zX adK adV sb fm) (.null)))) := by
          rw [z_ws_set (m := m) (m' := sR m q tg (none)) q rfl hp (fun j hj => z_e_cong rfl rfl (z_u_ne hj) rfl rfl), z_e_o (m := sR m q tg (none)) hc hK]
          congr 4
          exact z_fs_set (fun j hj => by simp [z_fv, sR, zI, zR, zK, z_u, hj]) (by simp only [z_fv]; rw [show zK (sR m q tg (none)) q = cl from hK, hr]; simp [zR, sR, z_u, va_rf, zv])
        rw [e]
        exact hP1) (fun p9 g1 => h4 p9 g1) hS1 h6)
    · cases hfin : (z_Ts cl tg).2.2.2 with
      | false =>
        exact va_put (ci := cl) (C := z_cn cl) (T := z_Ts cl) (N := z_fn cl) (v := zv b (zX adK adV sb fm) (.null)) C.1 C.2.1 C.2.2.2.2.1 (z_ly_ok hc) (z_tyX cl) (fun k9 hk9 => (z_ty_ok hc hk9).1) (fun a9 ha9 b9 hb9 hn9 => (z_ty_ok hc ha9).2.1 b9 hb9 hn9) C.2.2.2.1 C.2.2.2.2.2.1 h3 z_D h5 q he (z_vw hc) tg hk (C.2.2.2.2.1 _ hw) (fun y hy => by rw [hT1] at hy; exact hy) hfin hty hnar hfit (by simpa using ht) hd (fun H1 locs1 hP1 hD1 hS1 => kk H1 locs1 ls cells slots h1 h2 (by
        have e : z_ws b cs (sR m q tg (none)) = (z_ws b cs m).set q (b + q, .inr (cl, ((List.range (zN m q)).map (z_fv b m q)).set tg (zv b (zX adK adV sb fm) (.null)))) := by
          rw [z_ws_set (m := m) (m' := sR m q tg (none)) q rfl hp (fun j hj => z_e_cong rfl rfl (z_u_ne hj) rfl rfl), z_e_o (m := sR m q tg (none)) hc hK]
          congr 4
          exact z_fs_set (fun j hj => by simp [z_fv, sR, zI, zR, zK, z_u, hj]) (by simp only [z_fv]; rw [show zK (sR m q tg (none)) q = cl from hK, hr]; simp [zR, sR, z_u, va_rf, zv])
        rw [e]
        exact hP1) (fun p9 g1 => h4 p9 g1) hS1 h6)
      | true =>
        exact va_putF (ci := cl) (C := z_cn cl) (T := z_Ts cl) (N := z_fn cl) (v := zv b (zX adK adV sb fm) (.null)) C.1 C.2.1 C.2.2.2.2.1 (z_ly_ok hc) (z_tyX cl) (fun k9 hk9 => (z_ty_ok hc hk9).1) (fun a9 ha9 b9 hb9 hn9 => (z_ty_ok hc ha9).2.1 b9 hb9 hn9) C.2.2.2.1 C.2.2.2.2.2.1 h3 z_D h5 q he (z_vw hc) tg hk (C.2.2.2.2.1 _ hw) (fun y hy => by rw [hT1] at hy; exact hy) hfin (C.2.2.2.2.2.2.2.1 hi) hf2.symm hty hnar hfit (by simpa using ht) hd (fun H1 locs1 hP1 hD1 hS1 => kk H1 locs1 ls cells slots h1 h2 (by
        have e : z_ws b cs (sR m q tg (none)) = (z_ws b cs m).set q (b + q, .inr (cl, ((List.range (zN m q)).map (z_fv b m q)).set tg (zv b (zX adK adV sb fm) (.null)))) := by
          rw [z_ws_set (m := m) (m' := sR m q tg (none)) q rfl hp (fun j hj => z_e_cong rfl rfl (z_u_ne hj) rfl rfl), z_e_o (m := sR m q tg (none)) hc hK]
          congr 4
          exact z_fs_set (fun j hj => by simp [z_fv, sR, zI, zR, zK, z_u, hj]) (by simp only [z_fv]; rw [show zK (sR m q tg (none)) q = cl from hK, hr]; simp [zR, sR, z_u, va_rf, zv])
        rw [e]
        exact hP1) (fun p9 g1 => h4 p9 g1) hS1 h6)
  · cases hh
theorem zs_strv {q : Nat} (C : z_C x b cs D adK adV sb fm Y p s mi args meth c) (hck : z_ckE Y (pc, .fload 0, np, tg) = true) (hq : q < 6) (kk : z_G b cs D (zX adK adV sb fm) Y p l e Rm s mi args below meth c n0 t0 Q np L (.retAddr (q + 10) :: S) m) : z_G b cs D (zX adK adV sb fm) Y p l e Rm s mi args below meth c n0 t0 Q pc L (.retAddr q :: S) m := by
  obtain ⟨o, len, hd, hh⟩ := z_ckd hck
  simp only [z_rel, Bool.and_eq_true, Bool.or_eq_true, beq_iff_eq, decide_eq_true_eq, Bool.not_eq_true'] at hh
  obtain ⟨rfl, hh⟩ := hh
  intro H locs ls cells slots h1 h2 h3 h4 h5 h6
  have e1 : zX adK adV sb fm q = .ref (adK q) := by unfold zX; rw [if_pos hq]
  have e2 : zX adK adV sb fm (q + 10) = .ref (adV q) := by unfold zX; rw [if_neg (by omega), if_pos (by omega), Nat.add_sub_cancel]
  have k9 := (kk H locs ls cells slots h1 h2 h3 h4 h5 h6)
  rw [List.map_cons, show zv b (zX adK adV sb fm) (.retAddr (q + 10)) = .ref (adV q) from e2] at k9
  rw [List.map_cons, show zv b (zX adK adV sb fm) (.retAddr q) = .ref (adK q) from e1]
  split at hh
  · simp only [Bool.and_eq_true, Bool.or_eq_true, beq_iff_eq] at hh
    obtain ⟨⟨rfl, ho⟩, hh⟩ := hh
    rcases hh with ⟨-, rfl⟩ | ⟨h9, -⟩
    · exact vk_getf C.1 C.2.1 (C.2.2.2.2.2.2.1.1.1 q hq).2.2.1 h5 C.2.2.2.1 (C.2.2.2.2.1 (.fieldLink (z_own (z_on.getD Y 0)) 9 "java/lang/String" "value" "[B") (by rw [ho]; exact z_in (by decide +kernel) rfl)) (fun _ h9 => h9) hd k9
    · cases h9
  · cases hh
theorem zs_strc {q : Nat} (C : z_C x b cs D adK adV sb fm Y p s mi args meth c) (hck : z_ckE Y (pc, .fload 1, np, tg) = true) (hq : q < 6) (kk : z_G b cs D (zX adK adV sb fm) Y p l e Rm s mi args below meth c n0 t0 Q np L (.int 0 :: S) m) : z_G b cs D (zX adK adV sb fm) Y p l e Rm s mi args below meth c n0 t0 Q pc L (.retAddr q :: S) m := by
  obtain ⟨o, len, hd, hh⟩ := z_ckd hck
  simp only [z_rel, Bool.and_eq_true, Bool.or_eq_true, beq_iff_eq, decide_eq_true_eq, Bool.not_eq_true'] at hh
  obtain ⟨rfl, hh⟩ := hh
  intro H locs ls cells slots h1 h2 h3 h4 h5 h6
  have e1 : zX adK adV sb fm q = .ref (adK q) := by unfold zX; rw [if_pos hq]
  have k9 := (kk H locs ls cells slots h1 h2 h3 h4 h5 h6)
  rw [List.map_cons, show zv b (zX adK adV sb fm) (.retAddr q) = .ref (adK q) from e1]
  split at hh
  · simp only [Bool.and_eq_true, Bool.or_eq_true, beq_iff_eq] at hh
    obtain ⟨⟨rfl, ho⟩, hh⟩ := hh
    rcases hh with ⟨h9, -⟩ | ⟨-, rfl⟩
    · cases h9
    · exact vk_getf C.1 C.2.1 (C.2.2.2.2.2.2.1.1.1 q hq).2.1 h5 C.2.2.2.1 (C.2.2.2.2.1 (.fieldLink (z_own (z_on.getD Y 0)) 15 "java/lang/String" "coder" "B") (by rw [ho]; exact z_in (by decide +kernel) rfl)) (fun _ h9 => h9) hd k9
  · cases hh
end
