/-! CALLS, AND THE MAIN THEOREM: what the small machine answers, the real one answers. -/
theorem z_lookup {α : Type} : ∀ (l : List (Nat × α)) (a : Nat) (r : α), l.lookup a = some r → (a, r) ∈ l
  | [], _, _, h => by simp [List.lookup] at h
  | (c, d) :: l, a, r, h => by
    simp only [List.lookup] at h
    split at h
    · rename_i hb
      have hb : a = c := by simpa using hb
      cases h
      subst hb
      exact List.mem_cons_self
    · exact List.mem_cons_of_mem _ (z_lookup l a r h)
theorem z_ck_all {Y pc np tg : Nat} {i : Instr} (h : z_fetch Y pc = some (i, np, tg)) : z_ckE Y (pc, i, np, tg) = true := by
  by_cases hY : Y < 216
  · exact List.all_eq_true.mp (z_ckP_all Y hY) _ (z_lookup _ _ _ h)
  · have hl : z_tabs.length = 216 := by decide +kernel
    have e : z_tabs.getD Y [] = [] := by
      rw [List.getD_eq_getElem?_getD, List.getElem?_eq_none (by omega)]
      rfl
    unfold z_fetch at h
    rw [e] at h
    cases h
theorem z_si : (List.range (216 - 1)).all (fun y => !(z_sta.getD y false && z_ini.getD y false)) = true := by decide +kernel
theorem z_at_rep (n j : Nat) : z_at (List.replicate n zU) j = zU := by
  induction n generalizing j with
  | zero => rfl
  | succ n ih => cases j with
    | zero => rfl
    | succ j => exact ih j
theorem z_l0_len (as : List Value) (n : Nat) (h : z_cat as ≤ n) : (z_l0 as n).length = n := by
  induction as generalizing n with
  | nil => simp [z_l0]
  | cons v vs ih =>
    have e : z_cat (v :: vs) = v.category + z_cat vs := by simp [z_cat]
    rw [e] at h
    cases v <;> simp only [Value.category] at h <;> simp only [z_l0, List.length_cons] <;> rw [ih _ (by omega)] <;> omega
theorem z_l0_mem {b : Nat} {X : Nat → Value} (hX : ∀ k, (X k).category = 1) (as : List Value) : ∀ (n i j : Nat), z_is (z_at (z_l0 as n) j) = true → (i + j, zv b X (z_at (z_l0 as n) j)) ∈ lv_args i (as.map (zv b X)) := by
  induction as with
  | nil =>
    intro n i j h
    rw [show z_l0 [] n = List.replicate n zU from rfl, z_at_rep] at h
    cases h
  | cons v vs ih =>
    intro n i j h
    have two : ∀ (w : Value), w.category = 2 → z_is (z_at (w :: zU :: z_l0 vs (n - 2)) j) = true → (i + j, zv b X (z_at (w :: zU :: z_l0 vs (n - 2)) j)) ∈ lv_args i ((w :: vs).map (zv b X)) := by
      intro w hw h
      rw [List.map_cons, lv_args, zv_cat hX, if_pos hw]
      match j, h with
      | 0, h => exact List.mem_cons_self
      | 1, h => cases h
      | j + 2, h =>
        have := ih (n - 2) (i + 2) j h
        rw [show i + (j + 2) = i + 2 + j by omega]
        exact List.mem_cons_of_mem _ this
    have one : ∀ (w : Value), w.category = 1 → z_is (z_at (w :: z_l0 vs (n - 1)) j) = true → (i + j, zv b X (z_at (w :: z_l0 vs (n - 1)) j)) ∈ lv_args i ((w :: vs).map (zv b X)) := by
      intro w hw h
      rw [List.map_cons, lv_args, zv_cat hX, if_neg (by omega)]
      match j, h with
      | 0, h => exact List.mem_cons_self
      | j + 1, h =>
        have := ih (n - 1) (i + 1) j h
        rw [show i + (j + 1) = i + 1 + j by omega]
        exact List.mem_cons_of_mem _ this
    cases v with
    | long w => exact two _ rfl h
    | double w => exact two _ rfl h
    | _ => exact one _ rfl h
theorem z_lg_len {b : Nat} {X : Nat → Value} (hX : ∀ k, (X k).category = 1) (as : List Value) : (lg_sl (as.map (zv b X))).length = z_cat as := by
  induction as with
  | nil => rfl
  | cons v vs ih =>
    have e : z_cat (v :: vs) = v.category + z_cat vs := by simp [z_cat]
    have e2 : lg_sl ((v :: vs).map (zv b X)) = (if (zv b X v).category = 2 then [.val (zv b X v), .second] else [.val (zv b X v)]) ++ lg_sl (vs.map (zv b X)) := by simp [lg_sl]
    rw [e, e2, List.length_append, ih, zv_cat hX]
    rcases lv_cat v with h | h
    · rw [h]; simp
    · rw [h]; simp
section
variable {x : Nat × (Nat → Int32)} {b : Nat} {cs : Nat → ClassId} {D : va_G} {adK adV : Nat → Nat} {sb : Nat} {fm : Value} {Y : Nat} {p : Program} {l : Launch} {e : Env} {Rm : Room} {s : State} {mi : MethodId} {args : Array Value} {below : List Frame} {meth : Method} {c : Code} {n0 t0 : Nat} {Q : State → Prop} {pc np tg : Nat} {L S : List Value} {m : zM}
theorem z_X.to {U : State} {locs : List Loc} (h : z_X x b adK adV sb fm s) (hW : s.WarmedH U.vm) (hS : va_S (z_A b) s.heap U.heap locs) : z_X x b adK adV sb fm U := by
  obtain ⟨a1, a2, a3, a4, a5, a6, a7, a8, a9, a10, a11⟩ := h
  refine ⟨(a1.moved hW.alike).kept hS.2.1, fun k o i t ht => (a2 k o i t ht).warm hW, (a3.moved hW.alike).kept hS.2.1, (a4.moved hW.alike).kept hS.2.1, (a5.moved hW.alike).kept (hS.2.1 sb (by omega) (fun z => absurd (show b ≤ sb from z) (by omega))), a6, Nat.le_trans a7 hS.1, a8, ⟨a9.1.moved hW.alike, a9.2.1.moved hW.alike, a9.2.2.moved hW.alike⟩, fun o i y hy => (a10 o i y hy).warmM hW, a11.warmC hW⟩
theorem z_X.same {U : State} (h : z_X x b adK adV sb fm s) (hv : U.vm = s.vm) (hh : U.heap = s.heap) : z_X x b adK adV sb fm U := by
  have ha : s.vm.Alike U.vm := by rw [hv]; exact Vm.Alike.refl _
  obtain ⟨a1, a2, a3, a4, a5, a6, a7, a8, a9, a10, a11⟩ := h
  rw [z_X, hh]
  exact ⟨a1.moved ha, fun k o i t ht => (a2 k o i t ht).same hv, a3.moved ha, a4.moved ha, a5.moved ha, a6, a7, a8, ⟨a9.1.moved ha, a9.2.1.moved ha, a9.2.2.moved ha⟩, fun o i y hy => (a10 o i y hy).same rfl hv.symm, a11.same rfl hv.symm⟩
/-- how a method returns r at pc -/
def z_rok (Y pc : Nat) (r : Option Value) : Prop := match r with
  | none => decode (z_cc Y) pc = .ok (.return_, 1) ∧ z_rt Y = none
  | some (.int v) => decode (z_cc Y) pc = .ok (.ireturn, 1) ∧ ∃ ty, z_rt Y = some ty ∧ narrow ty (.int v) = .int v
  | some (.long _) => decode (z_cc Y) pc = .ok (.lreturn, 1) ∧ z_rt Y = some .long
  | some (.ref _) => decode (z_cc Y) pc = .ok (.areturn, 1) ∧ ∃ rt, z_rt Y = some rt ∧ ((∃ n, rt = .object n) ∨ ∃ t, rt = .array t)
  | some .null => decode (z_cc Y) pc = .ok (.areturn, 1) ∧ ∃ rt, z_rt Y = some rt ∧ ((∃ n, rt = .object n) ∨ ∃ t, rt = .array t)
  | _ => False
def z_fin (b : Nat) (cs : Nat → ClassId) (D : va_G) (X : Nat → Value) (Y : Nat) (p : Program) (l : Launch) (e : Env) (Rm : Room) (s : State) (mi : MethodId) (args : Array Value) (below : List Frame) (meth : Method) (c : Code) (n0 t0 : Nat) (Q : State → Prop) (r : Option Value) (m : zM) : Prop :=
  ∀ (H : Heap) (locs : List Loc) (ls : Array Slot) (cells slots pc : Nat), n0 + cells = zn m → t0 + slots = zt m → va_P D vwCl (z_ws b cs m) H → z_wf m → va_S (z_A b) s.heap H locs → z_rok Y pc r → W p l e Rm s mi args below meth c H locs cells slots Q (F0 mi pc ls (r.toList.map (zv b X)))
theorem z_narB {ty : FieldType} {v : Int32} (h : vp_nar ty v = v) (ht : ty = .boolean ∨ ty = .byte ∨ ty = .char) : narrow ty (.int v) = .int v := by
  rcases ht with rfl | rfl | rfl
  · have h : v &&& 1 = v := h
    show Value.int (v &&& 1) = .int v
    rw [h]
  · have h : v.toInt8.toInt32 = v := h
    show Value.int v.toInt8.toInt32 = .int v
    rw [h]
  · have h : v.toUInt32.toUInt16.toUInt32.toInt32 = v := h
    show Value.int v.toUInt32.toUInt16.toUInt32.toInt32 = .int v
    rw [h]
theorem z_ret {i : Instr} {v : Option Value} (hck : z_ckE Y (pc, i, np, tg) = true) (hst : z_st x i np tg L S m = some (.inr (.inl v))) (kk : z_fin b cs D (zX adK adV sb fm) Y p l e Rm s mi args below meth c n0 t0 Q v m) : z_G b cs D (zX adK adV sb fm) Y p l e Rm s mi args below meth c n0 t0 Q pc L S m := by
  intro H locs ls cells slots h1 h2 h3 h4 h5 h6
  obtain ⟨o, len, hd, hh⟩ := z_ckd hck
  cases i
  case ireturn =>
    simp only [z_rel, Bool.and_eq_true, Bool.or_eq_true, beq_iff_eq, decide_eq_true_eq] at hh
    obtain ⟨-, ⟨rfl, rfl⟩, hh⟩ := hh
    simp only [z_st] at hst
    split at hst
    · split at hst
      · rename_i w hw
        cases hst
        refine kk H locs ls cells slots pc h1 h2 h3 h4 h5 ⟨hd, ?_⟩
        rcases hh with ((⟨rfl, ht⟩ | ⟨rfl, ht⟩) | ⟨rfl, ht⟩) | ⟨rfl, ht⟩
        · exact ⟨_, ht, rfl⟩
        · exact ⟨_, ht, z_narB hw (Or.inl rfl)⟩
        · exact ⟨_, ht, z_narB hw (Or.inr (Or.inl rfl))⟩
        · exact ⟨_, ht, z_narB hw (Or.inr (Or.inr rfl))⟩
      · cases hst
    · cases hst
  case lreturn =>
    simp only [z_rel, Bool.and_eq_true, beq_iff_eq, decide_eq_true_eq] at hh
    obtain ⟨-, ⟨rfl, rfl⟩, hh⟩ := hh
    simp only [z_st] at hst
    split at hst
    · cases hst
      exact kk H locs ls cells slots pc h1 h2 h3 h4 h5 ⟨hd, hh⟩
    · cases hst
  case areturn =>
    simp only [z_rel, Bool.and_eq_true, beq_iff_eq, decide_eq_true_eq] at hh
    obtain ⟨-, ⟨rfl, rfl⟩, hh⟩ := hh
    have hr : ∃ rt, z_rt Y = some rt ∧ ((∃ n, rt = .object n) ∨ ∃ t, rt = .array t) := by
      split at hh
      · rename_i n hn
        exact ⟨_, hn, Or.inl ⟨_, rfl⟩⟩
      · rename_i n hn
        exact ⟨_, hn, Or.inr ⟨_, rfl⟩⟩
      · cases hh
    simp only [z_st] at hst
    split at hst
    · cases hst
      exact kk H locs ls cells slots pc h1 h2 h3 h4 h5 ⟨hd, hr⟩
    · cases hst
      exact kk H locs ls cells slots pc h1 h2 h3 h4 h5 ⟨hd, hr⟩
    · cases hst
  case return_ =>
    simp only [z_rel, Bool.and_eq_true, beq_iff_eq, decide_eq_true_eq] at hh
    obtain ⟨-, ⟨rfl, rfl⟩, hh⟩ := hh
    simp only [z_st] at hst
    split at hst
    · cases hst
      exact kk H locs ls cells slots pc h1 h2 h3 h4 h5 ⟨hd, hh⟩
    · cases hst
  all_goals
    exfalso
    simp only [z_st] at hst
    first
    | (cases hst; done)
    | ((repeat' (split at hst)) <;> cases hst; done)
end
