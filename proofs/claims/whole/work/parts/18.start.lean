/-! THE CLAIM OUT OF ONE WALK OF THE LAW'S BODY. Your part is whole_start (and what it stands on); all else here is the same for every law, but numbers. -/
def R_law : String := "OtherHandsLaw"
def lw_P (b : Addr) (xs : List Int32) (args : Array Value) (s : State) : Prop := args = #[.ref b] ∧ s.IntsAt b xs ∧ xs.length ≤ 3072 ∧ (Jvm.Cond.and given_1 narrow_1).before args s = true
def lw_Q (_ : Array Value) (s : State) (o : Outcome) (t : State) : Prop := o = .returned (some (.int 1)) ∧ Framed s o t [] 600000 7302250
def lw_Z (below : List Frame) (a : Array Value) (s : State) : State → Prop := fun t => ∃ o, t.status = .running ∧ Ended t below o ∧ lw_Q a s o t
/-- the law's own end, with 1 on the stack, nothing written that was there before, its room as the claim has it -/
theorem lw_ret {p : Program} {l : Launch} {e : Env} {s : State} {m : MethodId} {below : List Frame} {meth : Method} {c : Code} {b : Nat} (hx : p.tables.exec = Jvm.exec) (hb : c.code = code) (hr : meth.sig.returnType = ret) (hlocks : meth.locks = false) {pc : Nat} {H : Heap} {ls : Array Slot} (hdg : decode code pc = .ok (.ireturn, 1)) : W p l e room_1 s m #[Value.ref b] below meth c H [] 600000 7302250 (lw_Z below #[Value.ref b] s) (F0 m pc ls [.int 1]) := by
  intro T hT X
  obtain ⟨fs, hret, hrun, hended, hW, hframe⟩ := X.leave (v := some (.int 1)) (hlocks := hlocks) (fun h => by rw [hr] at h; cases h)
  have hmeth' : T.vm.method? m = some meth := X.method'
  refine ⟨T.setFrames fs, ?_, .returned (some (.int 1)), hrun, hended, rfl, ⟨_, rfl⟩, hW, hframe⟩
  jvm_step X.here [X.here.top, hx, hb, hdg, hmeth', hr, ret, narrow_b1]
  (try refine ⟨rfl, ?_⟩); (try refine ⟨rfl, ?_⟩)
  first | (intro acts; rw [hret _ acts rfl rfl rfl]) | rw [hret _ _ rfl rfl rfl]
  exact Steps.refl _
/-- what holds at the law's entry: the machine, the code, the tables' words (any of lw_tbl by 'hts w (by decide +kernel)'), the script of L ints xs at the cell b, what the Statement gives of the start (any of its parts by flat_of_before) -/
def lw_At (p : Program) (s : State) (m : MethodId) (meth : Method) (c : Code) (b L : Nat) (xs : Nat → Int32) : Prop :=
  p.tables.exec = Jvm.exec ∧ c.code = code ∧ meth.sig.returnType = ret ∧ c.maxLocals = 4 ∧ s.vm.findClass R_law = some m.cls ∧ (∀ w ∈ lw_tbl, w.before #[Value.ref b] s = true) ∧ va_X b L xs s s.heap ∧ b < s.heap.size ∧ meth.locks = false ∧ (Jvm.Cond.and given_1 narrow_1).before #[Value.ref b] s = true
/-! THE START: what the Statement gives is what the small machine needs. -/
theorem z_st_bnd {x : Nat × (Nat → Int32)} {i : Instr} {np tg pc' : Nat} {L S L' S' : List Value} {m m' : zM} (h : z_st x i np tg L S m = some (.inl (pc', L', S', m'))) (hb : zn m ≤ 600000 ∧ zt m ≤ 7302250) : zn m' ≤ 600000 ∧ zt m' ≤ 7302250 := by
  cases i <;> simp only [z_st] at h <;> (repeat' (split at h)) <;> first
    | (cases h; done)
    | (cases h; exact hb)
    | (rename_i hc; cases h; exact ⟨hc.1, hc.2⟩)
    | (rename_i hc; cases h; exact ⟨hc.1, hc.2.1⟩)
    | (rename_i hc; cases h; exact ⟨hc.2.2.1, hc.2.2.2.1⟩)
theorem z_exbnd {x : Nat × (Nat → Int32)} : ∀ (n d Y pc : Nat) (L S : List Value) (m : zM) (r : Option Value) (m' : zM), z_ex x n d Y pc L S m = some (r, m') → zn m ≤ 600000 ∧ zt m ≤ 7302250 → zn m' ≤ 600000 ∧ zt m' ≤ 7302250 := by
  intro n
  induction n with
  | zero => intro d Y pc L S m r m' h; simp [z_ex] at h
  | succ n ih =>
    intro d Y pc L S m r m' h hb
    cases hf : z_fetch Y pc with
    | none => simp [z_ex, hf] at h
    | some q =>
      obtain ⟨i, np, tg⟩ := q
      cases hs : z_st x i np tg L S m with
      | none => simp [z_ex, hf, hs] at h
      | some o =>
        cases o with
        | inl q =>
          obtain ⟨pc1, L1, S1, m1⟩ := q
          simp only [z_ex, hf, hs] at h
          exact ih _ _ _ _ _ _ _ _ h (z_st_bnd hs hb)
        | inr o =>
          cases o with
          | inl v =>
            simp only [z_ex, hf, hs] at h
            cases h
            exact hb
          | inr q =>
            obtain ⟨y, as, rest⟩ := q
            cases d with
            | zero => simp [z_ex, hf, hs] at h
            | succ d' =>
              simp only [z_ex, hf, hs] at h
              cases hc : z_ex x n d' y 0 (z_l0 as (z_ml.getD y 0)) [] m with
              | none => simp only [hc] at h; cases h
              | some w =>
                obtain ⟨v, m1⟩ := w
                simp only [hc] at h
                exact ih _ _ _ _ _ _ _ _ h (ih _ _ _ _ _ _ _ _ hc hb)
def z_tm (i : Nat) : Term := .string (z_own (z_sr.getD i (0, 0, "")).1) (z_sr.getD i (0, 0, "")).2.1
def z_gv : List Cond := flatC (Cond.and given_1 narrow_1)
theorem z_g1 : ∀ i ∈ List.range 6, Cond.exactly (z_tm i) "java/lang/String" ∈ z_gv ∧ Cond.eq (.field (z_tm i) "java/lang/String" "coder" "B") (.int 0) ∈ z_gv ∧ Cond.arrayOf (.field (z_tm i) "java/lang/String" "value" "[B") .byte ∈ z_gv ∧ Cond.eq (.length (.field (z_tm i) "java/lang/String" "value" "[B")) (.int (Int32.ofNat (z_len.getD i 0))) ∈ z_gv := by decide +kernel
theorem z_g2 : ∀ i ∈ List.range 6, ∀ j ∈ List.range 6, i = j ∨ Cond.not (Cond.eq (z_tm i) (z_tm j)) ∈ z_gv ∨ Cond.not (Cond.eq (z_tm j) (z_tm i)) ∈ z_gv := by decide +kernel
theorem z_g3 : ∀ i ∈ List.range 6, ∀ j ∈ List.range (z_len.getD i 0), Cond.eq (.elem (.field (z_tm i) "java/lang/String" "value" "[B") (.int (Int32.ofNat j))) (.int ((z_byt.getD i []).getD j 0)) ∈ z_gv := by decide +kernel
theorem z_g4 : ∀ i ∈ List.range 6, Cond.stringRef (z_own (z_sr.getD i (0, 0, "")).1) (z_sr.getD i (0, 0, "")).2.1 (z_sr.getD i (0, 0, "")).2.2 ∈ lw_tbl := by decide +kernel
theorem z_g5 : Cond.eq (.static "java/lang/String" "COMPACT_STRINGS" "Z") (.int 1) ∈ z_gv ∧ Cond.isRef (.static "jdk/internal/util/Preconditions" "SIOOBE_FORMATTER" "Ljava/util/function/BiFunction;") ∈ z_gv := by decide +kernel
theorem z_g6 : Cond.laysStatic "java/lang/String" "COMPACT_STRINGS" "Z" ∈ lw_tbl ∧ Cond.laysStatic "jdk/internal/util/Preconditions" "SIOOBE_FORMATTER" "Ljava/util/function/BiFunction;" ∈ lw_tbl ∧ Cond.initialized "java/lang/String" ∈ lw_tbl ∧ Cond.initialized "jdk/internal/util/Preconditions" ∈ lw_tbl := by decide +kernel
theorem z_g7 : Cond.arrayOver (.object RX1) ∈ lw_tbl ∧ Cond.arrayOver (.object RX4) ∈ lw_tbl ∧ Cond.arrayOver (.object RX6) ∈ lw_tbl ∧ Cond.castable "[I" "java/lang/Cloneable" ∈ lw_tbl := by decide +kernel
theorem z_g8 : Cond.arrayClass .byte ∈ lw_tbl ∧ Cond.arrayClass .char ∈ lw_tbl ∧ Cond.arrayClass .int ∈ lw_tbl ∧ Cond.arrayClass .long ∈ lw_tbl ∧ Cond.arrayClass .boolean ∈ lw_tbl := by decide +kernel
theorem z_arrP {args : Array Value} {s : State} {ty : FieldType} (hr : ∀ C, ty ≠ .object C) (h : (Cond.arrayClass ty).before args s = true) : ∃ cA, ArrOfT s cA ty ∧ va_RA s cA ty := by
  obtain ⟨cA, k, comp, h1, h2, h3⟩ := Cond.arrayClass_spec h
  refine ⟨cA, fun n z => ⟨fun k h => (by cases h), k, h2, comp, h3⟩, ?_⟩
  cases ty with
  | object C => exact absurd rfl (hr C)
  | _ => exact h1
theorem z_arrQ {args : Array Value} {s : State} {C : String} (h : (Cond.arrayOver (.object C)).before args s = true) : ∃ cA, ArrOfT s cA (.object C) ∧ va_RA s cA (.object C) := by
  obtain ⟨comp, cA, k, h1, -, h2, h3, h4⟩ := Cond.arrayOver_spec h
  exact ⟨cA, fun n z => ⟨fun k h => (by cases h), k, h2, comp, h3⟩, k, comp, h2, h3, h1, h4⟩
set_option maxHeartbeats 4000000 in
theorem z_begin {p : Program} {s : State} {m : MethodId} {meth : Method} {c : Code} {b L : Nat} {xs : Nat → Int32} (C0 : lw_At p s m meth c b L xs) : ∃ (cs : Nat → ClassId) (D : va_G) (adK adV : Nat → Nat) (fm : Value), z_C (L, xs) s.heap.size cs D adK adV b fm z_law p s m #[Value.ref b] meth c := by
  obtain ⟨hx, hb, hr, hml, hown, hts, hX, hbl, hlk, hgv⟩ := C0
  have hs := flat_of_before _ hgv
  have hs : ∀ w ∈ z_gv, w.before #[Value.ref b] s = true := hs
  have hA : ∀ a : Nat, a < s.heap.size → ¬ z_A s.heap.size a := fun a h z => absurd (show s.heap.size ≤ a from z) (by omega)
  have htb : ∀ w ∈ z_tb, w.before #[Value.ref b] s = true := fun w hw => hts w (List.mem_filter.mp hw).1
  have hcls : ∀ c : Nat, ∃ q : ClassId × (Nat → Nat), c < 12 → u_Kn s (z_cn c) (z_Ts c) (z_fn c) q.1 q.2 := by
    intro c
    by_cases hc : c < 12
    · obtain ⟨cC, iS, h⟩ := u_known (n := z_fn c) htb (z_ly_ok hc) (hts _ (z_inst_ok c (List.mem_range.mpr hc)).1)
      exact ⟨(cC, iS), fun _ => h⟩
    · exact ⟨(0, fun _ => 0), fun h => absurd h hc⟩
  obtain ⟨fD, hD⟩ := Classical.axiomOfChoice hcls
  have harr : ∀ kd : Nat, ∃ cA : ClassId, 12 ≤ kd → kd < 20 → ArrOfT s cA (z_ty kd) ∧ va_RA s cA (z_ty kd) := by
    intro kd
    by_cases hk : 12 ≤ kd ∧ kd < 20
    · obtain ⟨j, rfl⟩ : ∃ j, kd = j + 12 := ⟨kd - 12, by omega⟩
      have hj : j < 8 := by omega
      have key : ∃ cA, ArrOfT s cA (z_ty (j + 12)) ∧ va_RA s cA (z_ty (j + 12)) := by
        match j, hj with
        | 0, _ => exact z_arrP (ty := .byte) (fun _ h => by cases h) (hts _ z_g8.1)
        | 1, _ => exact z_arrP (ty := .char) (fun _ h => by cases h) (hts _ z_g8.2.1)
        | 2, _ => exact z_arrP (ty := .int) (fun _ h => by cases h) (hts _ z_g8.2.2.1)
        | 3, _ => exact z_arrP (ty := .long) (fun _ h => by cases h) (hts _ z_g8.2.2.2.1)
        | 4, _ => exact z_arrP (ty := .boolean) (fun _ h => by cases h) (hts _ z_g8.2.2.2.2)
        | 5, _ => exact z_arrQ (hts _ z_g7.1)
        | 6, _ => exact z_arrQ (hts _ z_g7.2.1)
        | 7, _ => exact z_arrQ (hts _ z_g7.2.2.1)
      obtain ⟨cA, h⟩ := key
      exact ⟨cA, fun _ _ => h⟩
    · exact ⟨0, fun h1 h2 => absurd ⟨h1, h2⟩ hk⟩
  obtain ⟨cs, hcs⟩ := Classical.axiomOfChoice harr
  have hK : va_K (fun c => (fD c).1, fun c => (fD c).2) vwCl (z_tys cs) s := by
    refine ⟨fun c q hq => ?_, fun k q hq => ?_⟩
    · have hc : c < 12 := (List.getElem?_eq_some_iff.mp hq).1
      rw [z_vw hc] at hq
      cases hq
      exact hD c hc
    · have hk : k < 8 := (List.getElem?_eq_some_iff.mp hq).1
      have e := z_tys_at (cs := cs) (kd := k + 12) (by omega) (by omega)
      rw [Nat.add_sub_cancel] at e
      rw [e] at hq
      cases hq
      exact hcs (k + 12) (by omega) (by omega)
  obtain ⟨adK, adV, hS, hev⟩ := vk_Sof (args := #[Value.ref b]) (s := s) (N := 6) (tm := z_tm) (len := z_len) (byt := z_byt) (A := z_A s.heap.size) (by decide +kernel)
    (fun i hi => hs _ (z_g1 i (List.mem_range.mpr hi)).1) (fun i hi => hs _ (z_g1 i (List.mem_range.mpr hi)).2.1) (fun i hi => hs _ (z_g1 i (List.mem_range.mpr hi)).2.2.1) (fun i hi => hs _ (z_g1 i (List.mem_range.mpr hi)).2.2.2)
    (fun i hi j hj => hs _ (z_g3 i (List.mem_range.mpr hi) j (List.mem_range.mpr hj)))
    (fun i j hi hj hij => by
      rcases z_g2 i (List.mem_range.mpr hi) j (List.mem_range.mpr hj) with h | h | h
      · exact absurd h hij
      · exact Or.inl (hs _ h)
      · exact Or.inr (hs _ h)) hA
  have hR : ∀ (k o i : Nat) (t : String), z_sr[k]? = some (o, i, t) → vk_R (z_own o) i t (adK k) s := by
    intro k o i t ht
    have hk : k < 6 := (List.getElem?_eq_some_iff.mp ht).1
    have e : z_sr.getD k (0, 0, "") = (o, i, t) := by rw [List.getD_eq_getElem?_getD, ht]; rfl
    have g1 := hts _ (z_g4 k (List.mem_range.mpr hk))
    have g2 := hev k hk
    unfold z_tm at g2
    rw [e] at g1 g2
    exact vk_R.of g1 g2
  have hZ1 : va_Z "java/lang/String" "COMPACT_STRINGS" "Z" (.int 1) (z_A s.heap.size) s s.heap := va_Zof (hts _ z_g6.1) (hts _ z_g6.2.2.1) (va_eqi (hs _ z_g5.1)) hA
  obtain ⟨fm, hZ2, hfm⟩ : ∃ fm, va_Z "jdk/internal/util/Preconditions" "SIOOBE_FORMATTER" "Ljava/util/function/BiFunction;" fm (z_A s.heap.size) s s.heap ∧ fm.category = 1 := by
    rcases va_Zqof (hts _ z_g6.2.1) (hts _ z_g6.2.2.2) (hs _ z_g5.2) hA with h | ⟨t, h⟩
    · exact ⟨_, h, rfl⟩
    · exact ⟨_, h, rfl⟩
  refine ⟨cs, _, adK, adV, fm, hx, hb, hml, hown, htb, hK, ⟨hS, hR, hZ1, hZ2, hX, hbl, Nat.le_refl _, hfm, ⟨va_AO.of (hts _ z_g7.1), va_AO.of (hts _ z_g7.2.1), va_AO.of (hts _ z_g7.2.2.1)⟩, fun o i y h => va_Nw.of rfl (hts _ h), va_Nw.of rfl (hts _ z_g7.2.2.2)⟩, fun h => absurd (show z_ini.getD z_law false = true from h) (by decide +kernel), hr, hlk⟩
def z_m0 : zM := (fun _ _ => 0, fun _ _ => 0, fun _ _ => none, fun _ => 0, fun _ => 0, 0, 0)
set_option maxHeartbeats 4000000 in
theorem z_whole {p : Program} {e : Env} {s : State} {m : MethodId} {below : List Frame} {meth : Method} {c : Code} (l : Launch) {b L : Nat} {xs : Nat → Int32} (h : zOk (L, xs) 400 z_law 0 [.retAddr 30, zU, zU, zU] [] z_m0 (fun v _ => v = some (.int 1))) (C0 : lw_At p s m meth c b L xs) : W p l e room_1 s m #[Value.ref b] below meth c s.heap [] 0 0 (lw_Z below #[Value.ref b] s) (entryFrame m ([Value.ref b] : List Value).toArray 4) := by
  obtain ⟨cs, D, adK, adV, fm, C⟩ := z_begin C0
  obtain ⟨n, v, m', he, hv⟩ := h
  subst hv
  have hbd := z_exbnd _ _ _ _ _ _ _ _ _ he ⟨Nat.zero_le _, Nat.zero_le _⟩
  have hXc := z_Xc C
  rw [lg_entry_eq]
  have hl := lv_entry ([Value.ref b] : List Value) (n := 4) (Nat.le_of_ble_eq_true rfl)
  refine z_main n 400 z_law 0 _ [] z_m0 _ m' he s.heap.size cs D adK adV b fm p l e room_1 s m _ below meth c 0 0 _ C (by decide) (by decide) rfl (by rw [Nat.zero_add]; exact hbd.1) (by rw [Nat.zero_add]; exact hbd.2) ?_ s.heap [] _ 0 0 rfl rfl (fun k q hk => absurd (z_ws_lt hk).1 (Nat.not_lt_zero _)) (fun p9 g1 => absurd g1 (Nat.not_lt_zero _)) va_S.rf ⟨rfl, hl.1, hl.2.1, fun q hq => ?_⟩
  · intro H locs ls cells slots pc h1 h2 h3 h4 h5 hr
    obtain ⟨hd, -⟩ := hr
    refine va_forget (fun q hq => h5.2.2 q hq) ?_
    refine W.widen (k := 600000) (n := 7302250) (by omega) (by omega) ?_
    exact lw_ret C0.1 C0.2.1 C0.2.2.1 C0.2.2.2.2.2.2.2.2.1 hd
  · obtain ⟨g1, g2, g3⟩ := z_lv_mem.mp hq
    have := z_l0_mem (b := s.heap.size) hXc [.retAddr 30] 4 0 q.1 g2
    rw [Nat.zero_add] at this
    rw [show z_at [Value.retAddr 30, zU, zU, zU] q.1 = z_at (z_l0 [.retAddr 30] 4) q.1 from rfl] at g3
    rw [← g3] at this
    exact hl.2.2 q this
