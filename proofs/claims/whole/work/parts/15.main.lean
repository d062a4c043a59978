theorem z_exmono {x : Nat × (Nat → Int32)} : ∀ (n d Y pc : Nat) (L S : List Value) (m : zM) (r : Option Value) (m' : zM), z_ex x n d Y pc L S m = some (r, m') → zn m ≤ zn m' ∧ zt m ≤ zt m' := by
  intro n
  induction n with
  | zero => intro d Y pc L S m r m' h; simp [z_ex] at h
  | succ n ih =>
    intro d Y pc L S m r m' h
    cases hf : z_fetch Y pc with
    | none => simp [z_ex, hf] at h
    | some q =>
      obtain ⟨i, np, tg⟩ := q
      cases hs : z_st x i np tg L S m with
      | none => simp [z_ex, hf, hs] at h
      | some o =>
        cases o with
        | inl q =>
          obtain ⟨pc1, L1, S1, m1⟩ := q
          simp only [z_ex, hf, hs] at h
          have h1 := z_st_mono hs
          have h2 := ih _ _ _ _ _ _ _ _ h
          exact ⟨Nat.le_trans h1.1 h2.1, Nat.le_trans h1.2 h2.2⟩
        | inr o =>
          cases o with
          | inl v =>
            simp only [z_ex, hf, hs] at h
            cases h
            exact ⟨Nat.le_refl _, Nat.le_refl _⟩
          | inr q =>
            obtain ⟨y, as, rest⟩ := q
            cases d with
            | zero => simp [z_ex, hf, hs] at h
            | succ d' =>
              simp only [z_ex, hf, hs] at h
              cases hc : z_ex x n d' y 0 (z_l0 as (z_ml.getD y 0)) [] m with
              | none => simp only [hc] at h; cases h
              | some w =>
                obtain ⟨v, m1⟩ := w
                simp only [hc] at h
                have h1 := ih _ _ _ _ _ _ _ _ hc
                have h2 := ih _ _ _ _ _ _ _ _ h
                exact ⟨Nat.le_trans h1.1 h2.1, Nat.le_trans h1.2 h2.2⟩
/-- what is proved by induction on the fuel -/
def z_P (x : Nat × (Nat → Int32)) (n : Nat) : Prop := ∀ (d Y pc : Nat) (L S : List Value) (m : zM) (r : Option Value) (m' : zM), z_ex x n d Y pc L S m = some (r, m') →
  ∀ (b : Nat) (cs : Nat → ClassId) (D : va_G) (adK adV : Nat → Nat) (sb : Nat) (fm : Value) (p : Program) (l : Launch) (e : Env) (Rm : Room) (s : State) (mi : MethodId) (args : Array Value) (below : List Frame) (meth : Method) (c : Code) (n0 t0 : Nat) (Q : State → Prop),
    z_C x b cs D adK adV sb fm Y p s mi args meth c → d + 1 ≤ Rm.frames → 64 * (d + 1) ≤ Rm.locals → s.heap.size = b + n0 → zn m' ≤ n0 + Rm.cells → zt m' ≤ t0 + Rm.slots →
    z_fin b cs D (zX adK adV sb fm) Y p l e Rm s mi args below meth c n0 t0 Q r m' → z_G b cs D (zX adK adV sb fm) Y p l e Rm s mi args below meth c n0 t0 Q pc L S m
theorem z_szP {b : Nat} {cs : Nat → ClassId} {D : va_G} {m : zM} {H : Heap} (h : va_P D vwCl (z_ws b cs m) H) (hb : b ≤ H.size) : b + zn m ≤ H.size := by
  by_cases h0 : zn m = 0
  · omega
  · have := (h (zn m - 1) _ (z_ws_at (by omega))).lt
    simp only at this
    omega
abbrev z_wy (y : Nat) : List Cond := Cond.code (z_yy y) (z_cc y) (z_mx y) (z_rt y) :: z_tb
theorem z_wy_good {y : Nat} (hy : y < 216 - 1) : GoodIn z_tb (z_wy y) := by
  intro w hw
  have hm : w ∈ z_tb := by
    rcases List.mem_cons.mp hw with rfl | h
    · exact z_in (z_yc215 y hy) rfl
    · exact h
  exact ⟨hm, z_good hm⟩
section
variable {x : Nat × (Nat → Int32)} {b : Nat} {cs : Nat → ClassId} {D : va_G} {adK adV : Nat → Nat} {sb : Nat} {fm : Value} {Y : Nat} {p : Program} {l : Launch} {e : Env} {Rm : Room} {s : State} {mi : MethodId} {args : Array Value} {below : List Frame} {meth : Method} {c : Code} {n0 t0 : Nat} {Q : State → Prop} {pc np tg : Nat} {L S : List Value} {m m1 : zM} {v : Option Value} {n d y : Nat} {as rest : List Value}
def z_Pc (x : Nat × (Nat → Int32)) (b : Nat) (cs : Nat → ClassId) (D : va_G) (adK adV : Nat → Nat) (sb : Nat) (fm : Value) (as : List Value) (m : zM) : Array Value → State → Prop := va_Pc (as.map (zv b (zX adK adV sb fm))) (fun U => U.heap.size = b + zn m ∧ va_P D vwCl (z_ws b cs m) U.heap ∧ va_K D vwCl (z_tys cs) U ∧ z_X x b adK adV sb fm U)
def z_Qc (b : Nat) (cs : Nat → ClassId) (D : va_G) (X : Nat → Value) (v : Option Value) (m1 : zM) : Array Value → State → Outcome → State → Prop := fun _ st oc t => oc = .returned (v.map (zv b X)) ∧ va_P D vwCl (z_ws b cs m1) t.heap ∧ z_wf m1 ∧ va_F (z_A b) st t
theorem z_y1 (hy : y < 216 - 1) : (z_yy y).cls = z_own (z_on.getD y 0) ∧ (z_yy y).cls ≠ "java/lang/invoke/MethodHandle" ∧ (z_yy y).cls ≠ "java/lang/invoke/VarHandle" ∧ plainName (z_yy y).cls = true ∧ z_mx y ≤ 16 := by
  have h := List.all_eq_true.mp z_y_1 y (List.mem_range.mpr hy)
  simp only [z_yB1, Bool.and_eq_true, decide_eq_true_eq] at h
  exact ⟨h.1.1.1.1, h.1.1.1.2, h.1.1.2, h.1.2, h.2⟩
set_option maxHeartbeats 4000000 in
theorem z_met (hP : z_P x n) (hy : y < 216 - 1) (he : z_ex x n d y 0 (z_l0 as (z_mx y)) [] m = some (v, m1)) (hc : z_cat as ≤ z_mx y) (hwf : z_wf m) : Met l (z_yy y) (z_wy y) ({ frames := d + 1, cells := zn m1 - zn m, slots := zt m1 - zt m, locals := 64 * (d + 1) }) (z_Pc x b cs D adK adV sb fm as m) (z_Qc b cs D (zX adK adV sb fm) v m1) (zn m1 - zn m) (zt m1 - zt m) (z_A b) := by
  obtain ⟨y1, -, -, y4, -⟩ := z_y1 hy
  refine Met.ofW (cc := z_cc y) (maxL := z_mx y) (ret := z_rt y) y4 rfl ?_
  intro p e s mi args below meth c s₁ B hml hv
  obtain ⟨rfl, hsz, hPP, hK, hX⟩ := hv
  have hts := atoms_spec (ws := z_wy y) B.pre
  have hini : z_ini.getD y false = true → meth.name = "<init>" := by
    intro hi
    have h := List.all_eq_true.mp z_y_2 y (List.mem_range.mpr hy)
    unfold z_yB2 at h
    have hns : z_sta.getD y false = false := by
      have h9 := List.all_eq_true.mp z_si y (List.mem_range.mpr hy)
      rw [hi] at h9
      cases hs : z_sta.getD y false with
      | false => rfl
      | true => rw [hs] at h9; cases h9
    rw [hns, hi] at h
    simp only [if_true, Bool.false_eq_true, if_false, Bool.and_eq_true, decide_eq_true_eq] at h
    exact (name_of_methodNamed B.named B.method).1.trans h.2.1
  have C : z_C x b cs D adK adV sb fm y p s mi (as.map (zv b (zX adK adV sb fm))).toArray meth c := ⟨B.exec, B.bytes, hml, by rw [← y1]; exact findClass_of_methodNamed B.named, fun w hw => hts w (List.mem_cons_of_mem _ hw), hK, hX, hini, B.returns, B.notSynchronized⟩
  have hXc := z_Xc C
  have hmono := z_exmono _ _ _ _ _ _ _ _ _ he
  rw [lg_entry_eq]
  have hl := lv_entry (as.map (zv b (zX adK adV sb fm))) (n := z_mx y) (by rw [z_lg_len hXc]; exact hc)
  have hll := z_l0_len as (z_mx y) hc
  refine hP d y 0 _ [] m v m1 he b cs D adK adV sb fm p l e _ s mi _ below meth c (zn m) (zt m) _ C (Nat.le_refl _) (Nat.le_refl _) hsz (by show zn m1 ≤ zn m + (zn m1 - zn m); omega) (by show zt m1 ≤ zt m + (zt m1 - zt m); omega) ?_ s.heap [] _ 0 0 rfl rfl hPP hwf va_S.rf ⟨hll, hl.1, hl.2.1, fun q hq => ?_⟩
  · intro H locs ls cells slots pc h1 h2 h3 h4 h5 hr
    have ec : zn m1 - zn m = cells := by omega
    have es : zt m1 - zt m = slots := by omega
    rw [ec, es]
    have fin : ∀ t : State, t.heap = H → s.WarmedH t.vm → z_Qc b cs D (zX adK adV sb fm) v m1 (as.map (zv b (zX adK adV sb fm))).toArray s (.returned (v.map (zv b (zX adK adV sb fm)))) t := fun t ht _ => ⟨rfl, by rw [ht]; exact h3, h4, h5.F ht⟩
    have hlk := C.2.2.2.2.2.2.2.2.2
    have hrt := C.2.2.2.2.2.2.2.2.1
    match v, hr, fin with
    | none, hr, fin => exact W.vret C.1 C.2.1 (hrt.trans hr.2) fin h5.2.2 hr.1 hlk
    | some (.int w), hr, fin =>
      obtain ⟨hd, ty, e1, e2⟩ := hr
      exact W.zret C.1 C.2.1 (hrt.trans e1) e2 fin h5.2.2 hd hlk
    | some (.long w), hr, fin => exact W.lret C.1 C.2.1 (hrt.trans hr.2) fin h5.2.2 hr.1 hlk
    | some (.ref w), hr, fin =>
      obtain ⟨hd, rt, e1, e2⟩ := hr
      exact W.aret C.1 C.2.1 (hrt.trans e1) e2 (Or.inr ⟨_, rfl⟩) fin h5.2.2 hd hlk
    | some .null, hr, fin =>
      obtain ⟨hd, rt, e1, e2⟩ := hr
      exact W.aret C.1 C.2.1 (hrt.trans e1) e2 (Or.inl rfl) fin h5.2.2 hd hlk
    | some (.float w), hr, fin => exact hr.elim
    | some (.double w), hr, fin => exact hr.elim
    | some (.retAddr w), hr, fin => exact hr.elim
  · obtain ⟨g1, g2, g3⟩ := z_lv_mem.mp hq
    have := z_l0_mem (b := b) hXc as (z_mx y) 0 q.1 g2
    rw [Nat.zero_add, ← g3] at this
    exact hl.2.2 q this
/-- behind a call -/
theorem z_cont {H : Heap} {locs : List Loc} {ls : Array Slot} {cells slots : Nat} {st0 : List Value} {aa : Array Value} (h1 : n0 + cells = zn m) (h2 : t0 + slots = zt m) (hm : zn m ≤ zn m1 ∧ zt m ≤ zt m1) (h5 : va_S (z_A b) s.heap H locs) (h6 : z_lh b (zX adK adV sb fm) ls (z_mx Y) L)
    (hr : va_Run p l e Rm s mi args below meth c H locs cells slots (zn m1 - zn m) (zt m1 - zt m) (F0 mi pc ls st0) (rest.map (zv b (zX adK adV sb fm))) (z_Qc b cs D (zX adK adV sb fm) v m1 aa) (z_A b))
    (kk : z_G b cs D (zX adK adV sb fm) Y p l e Rm s mi args below meth c n0 t0 Q (pc + 3) L (v.toList ++ rest) m1) : W p l e Rm s mi args below meth c H locs cells slots Q (F0 mi pc ls st0) := by
  intro T hT X
  obtain ⟨v', st₀, t, T', L', e0, X', hL, e1, e2, ⟨hv, hP1, hw1, hF⟩, go⟩ := hr T hT X
  have hv' : v' = v.map (zv b (zX adK adV sb fm)) := by injection hv
  subst hv'
  have hz := hF.1
  have hk := hF.2
  rw [e0] at hz hk
  have hS' : va_S (z_A b) s.heap T'.heap (locs ++ L') := ⟨Nat.le_trans h5.1 (by rw [e1]; exact hz), fun q g1 g2 => by rw [e1, hk q (Nat.lt_of_lt_of_le g1 h5.1) g2]; exact h5.2.1 q g1 g2, fun q hq => by
    rcases List.mem_append.mp hq with h | h
    · exact h5.2.2 q h
    · exact hL q h⟩
  obtain ⟨t2, a1, b1⟩ := kk T'.heap (locs ++ L') ls (cells + (zn m1 - zn m)) (slots + (zt m1 - zt m)) (by omega) (by omega) (by rw [e1]; exact hP1) hw1 hS' h6 T' rfl X'
  have es : (v.toList ++ rest).map (zv b (zX adK adV sb fm)) = (v.map (zv b (zX adK adV sb fm))).toList ++ rest.map (zv b (zX adK adV sb fm)) := by cases v <;> simp
  rw [es] at a1
  exact ⟨t2, go t2 a1, b1⟩
end
