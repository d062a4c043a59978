section
variable {x : Nat × (Nat → Int32)} {b : Nat} {cs : Nat → ClassId} {D : va_G} {adK adV : Nat → Nat} {sb : Nat} {fm : Value} {Y : Nat} {p : Program} {l : Launch} {e : Env} {Rm : Room} {s : State} {mi : MethodId} {args : Array Value} {below : List Frame} {meth : Method} {c : Code} {n0 t0 : Nat} {Q : State → Prop} {pc np tg : Nat} {L S : List Value} {m m1 : zM} {v : Option Value} {n d y : Nat} {as rest : List Value}
theorem z_blind : FrameBlind (z_Pc x b cs D adK adV sb fm as m) := by
  intro a U g mk q
  obtain ⟨q0, q1, q2, q3, q4⟩ := q
  exact ⟨q0, q1, q2, va_K.moved (u := U) (U := U.calling g mk a) (Vm.Alike.refl U.vm) q3, q4.same rfl rfl⟩
theorem z_pre {H : Heap} {locs : List Loc} (C : z_C x b cs D adK adV sb fm Y p s mi args meth c) (hz : H.size = b + zn m) (h3 : va_P D vwCl (z_ws b cs m) H) (h5 : va_S (z_A b) s.heap H locs) : ∀ U : State, U.heap = H → s.WarmedH U.vm → z_Pc x b cs D adK adV sb fm as m (as.map (zv b (zX adK adV sb fm))).toArray U :=
  fun U hU hW => ⟨rfl, by rw [hU]; exact hz, by rw [hU]; exact h3, va_K.moved hW.alike C.2.2.2.2.2.1, C.2.2.2.2.2.2.1.to hW (by rw [hU]; exact h5)⟩
theorem z_take {S : List Value} {k : Nat} {w : Value} (h1 : 1 ≤ k) (h2 : k ≤ S.length) (h : z_at S (k - 1) = w) : ∃ tl, (S.take k).reverse = w :: tl ∧ tl.length = k - 1 := by
  obtain ⟨j, rfl⟩ : ∃ j, k = j + 1 := ⟨k - 1, by omega⟩
  rw [Nat.add_sub_cancel] at h
  have hj : j < S.length := by omega
  have e : z_at S j = S[j] := by
    clear h h1 h2
    induction S generalizing j with
    | nil => simp at hj
    | cons a S ih => cases j with
      | zero => rfl
      | succ j => exact ih j (by simpa using hj)
  refine ⟨(S.take j).reverse, ?_, by simp; omega⟩
  rw [List.take_succ_eq_append_getElem hj, List.reverse_append, ← e, h]
  rfl
theorem z_stack {S : List Value} {k : Nat} {f : Value → Value} : S.map f = ((S.take k).reverse.map f).reverse ++ (S.drop k).map f := by
  rw [← List.map_reverse, List.reverse_reverse, ← List.map_append, List.take_append_drop]
theorem z_y3 (hy : y < 216 - 1) : Cond.initialized (z_yy y).cls ∈ z_tb ∧ (z_sta.getD y false = true → Cond.static (z_yy y) ∈ z_tb) ∧ (z_sta.getD y false = false → Cond.instanceMethod (z_yy y) ∈ z_tb ∧ (z_ini.getD y false = false → Cond.selects (z_yy y).cls (z_yy y) (z_yy y) ∈ z_tb)) := by
  have h := List.all_eq_true.mp z_y_3 y (List.mem_range.mpr hy)
  simp only [z_yB3, Bool.and_eq_true, decide_eq_true_eq] at h
  refine ⟨z_in (List.mem_of_getElem? h.1) rfl, fun hs => ?_, fun hs => ?_⟩
  · have h2 := h.2
    rw [hs] at h2
    simp only [if_true, decide_eq_true_eq] at h2
    exact z_in (List.mem_of_getElem? h2) rfl
  · have h2 := h.2
    rw [hs] at h2
    simp only [Bool.false_eq_true, if_false, Bool.and_eq_true, Bool.or_eq_true, decide_eq_true_eq] at h2
    refine ⟨z_in (List.mem_of_getElem? h2.1) rfl, fun hi => ?_⟩
    rcases h2.2 with h3 | h3
    · rw [hi] at h3; cases h3
    · exact z_in (List.mem_of_getElem? h3) rfl
theorem z_y2s (hy : y < 216 - 1) (hs : z_sta.getD y false = true) : (parseMethodDescriptor (z_yy y).desc).map (fun d => d.parameters.length) = some (z_na.getD y 0) := by
  have h := List.all_eq_true.mp z_y_2 y (List.mem_range.mpr hy)
  unfold z_yB2 at h
  rw [hs] at h
  simp only [if_true, decide_eq_true_eq] at h
  exact h
theorem z_y2i (hy : y < 216 - 1) (hs : z_sta.getD y false = false) : (parseMethodDescriptor (z_yy y).desc).map (fun d => d.parameters.length) = some (z_na.getD y 0 - 1) ∧ (z_ini.getD y false = true → (z_yy y).name = "<init>" ∧ z_rt y = none) ∧ (z_ini.getD y false = false → if z_oc.getD y 99 = 50 then (z_yy y).cls = "java/lang/String" else z_oc.getD y 99 < 12 ∧ (z_yy y).cls = z_cn (z_oc.getD y 99)) := by
  have h := List.all_eq_true.mp z_y_2 y (List.mem_range.mpr hy)
  unfold z_yB2 at h
  rw [hs] at h
  simp only [Bool.false_eq_true, if_false, Bool.and_eq_true, decide_eq_true_eq] at h
  refine ⟨h.1.2, fun hi => ?_, fun hi => ?_⟩
  · have h2 := h.2
    rw [hi] at h2
    simp only [if_true, Bool.and_eq_true, decide_eq_true_eq] at h2
    exact h2
  · have h2 := h.2
    rw [hi] at h2
    simp only [Bool.false_eq_true, if_false] at h2
    split
    · rename_i h9
      rw [if_pos h9] at h2
      simpa using h2
    · rename_i h9
      rw [if_neg h9] at h2
      simpa using h2
theorem z_isS (hy : y < 216 - 1) (hi : z_ini.getD y false = true) : z_sta.getD y false = false := by
  have h9 := List.all_eq_true.mp z_si y (List.mem_range.mpr hy)
  rw [hi] at h9
  cases hs : z_sta.getD y false with
  | false => rfl
  | true => rw [hs] at h9; cases h9
set_option maxHeartbeats 8000000 in
theorem z_call {i : Instr} (C : z_C x b cs D adK adV sb fm Y p s mi args meth c) (hP : z_P x n) (hck : z_ckE Y (pc, i, np, tg) = true) (hst : z_st x i np tg L S m = some (.inr (.inr (y, as, rest)))) (he : z_ex x n d y 0 (z_l0 as (z_ml.getD y 0)) [] m = some (v, m1)) (hfr : d + 2 ≤ Rm.frames) (hlo : 64 * (d + 2) ≤ Rm.locals) (hn0 : s.heap.size = b + n0) (hr : zn m1 ≤ n0 + Rm.cells ∧ zt m1 ≤ t0 + Rm.slots)
    (kk : z_G b cs D (zX adK adV sb fm) Y p l e Rm s mi args below meth c n0 t0 Q np L (v.toList ++ rest) m1) : z_G b cs D (zX adK adV sb fm) Y p l e Rm s mi args below meth c n0 t0 Q pc L S m := by
  have hmono := z_exmono _ _ _ _ _ _ _ _ _ he
  obtain ⟨o, len, hd, hh⟩ := z_ckd hck
  intro H locs ls cells slots h1 h2 h3 h4 h5 h6
  refine z_size fun hzu => ?_
  have hx := C.2.2.2.2.2.2.1
  have hz : H.size = b + zn m := by
    have hzl := z_szP h3 (Nat.le_trans hx.2.2.2.2.2.2.1 h5.1)
    omega
  have hXc := z_Xc C
  have hfix : CallFix p mi c (z_cc Y) (z_mx Y) s args z_tb (z_own (z_on.getD Y 0)) := ⟨C.1, C.2.1, C.2.2.1, C.2.2.2.1, C.2.2.2.2.1⟩
  have hcells : cells + (zn m1 - zn m) ≤ Rm.cells ∧ slots + (zt m1 - zt m) ≤ Rm.slots := ⟨by omega, by omega⟩
  have hts := C.2.2.2.2.1
  cases i
  case invokestatic y' =>
    simp only [z_rel, Bool.and_eq_true, beq_iff_eq] at hh
    obtain ⟨rfl, hh⟩ := hh
    simp only [z_st] at hst
    split at hst
    · rename_i hc
      cases hst
      split at hh
      · simp only [Bool.and_eq_true, Bool.or_eq_true, beq_iff_eq, decide_eq_true_eq] at hh
        obtain ⟨⟨rfl, hk⟩, hs⟩ := hh
        have hlen : ((S.take (z_na.getD y 0)).reverse.map (zv b (zX adK adV sb fm))).length = z_na.getD y 0 := by rw [List.length_map, List.length_reverse, List.length_take]; exact Nat.min_eq_left hc.1
        have hW : 2 * (F0 mi pc ls (S.map (zv b (zX adK adV sb fm)))).monitorRoom + (((S.drop (z_na.getD y 0)).map (zv b (zX adK adV sb fm))).map fun v => v.category).sum ≤ 8 := lv_room (by rw [zv_cats hXc]; exact hc.2.1)
        have hcat : z_cat (S.take (z_na.getD y 0)).reverse ≤ z_mx y := by
          have : z_cat (S.take (z_na.getD y 0)).reverse = z_cat (S.take (z_na.getD y 0)) := by
            unfold z_cat
            rw [List.map_reverse, List.sum_reverse]
          rw [this]
          exact hc.2.2
        rcases hk with hk | hk
        · obtain ⟨hy, hl⟩ := z_mk_0 hk
          obtain ⟨y1, y2, y3, y4, y5⟩ := z_y1 hy
          obtain ⟨w1, w2, -⟩ := z_y3 hy
          have hM := z_met (l := l) (b := b) (cs := cs) (D := D) (adK := adK) (adV := adV) (sb := sb) (fm := fm) hP hy he hcat h4
          exact z_cont h1 h2 hmono h5 h6 (va_runS hfix hM ⟨callB_of (z_na.getD y 0) hts (z_wy_good hy) rfl rfl rfl (hts _ w1) (hts _ hl) ⟨y2, y3, z_y2s hy hs⟩ ⟨by show d + 1 + 1 ≤ _; omega, by show 8 + (z_mx y + 11) + 64 * (d + 1) ≤ _; omega⟩, hts _ (w2 hs)⟩ ⟨z_blind, z_pre C hz h3 h5⟩ rfl hlen h6.2.1 z_stack hW hd hcells) kk
        · obtain ⟨hy, hl⟩ := z_mk_1 hk
          obtain ⟨y1, y2, y3, y4, y5⟩ := z_y1 hy
          obtain ⟨w1, w2, -⟩ := z_y3 hy
          have hM := z_met (l := l) (b := b) (cs := cs) (D := D) (adK := adK) (adV := adV) (sb := sb) (fm := fm) hP hy he hcat h4
          exact z_cont h1 h2 hmono h5 h6 (va_runSN hfix hM ⟨va_cnB (z_na.getD y 0) hts (z_wy_good hy) rfl rfl rfl (hx.2.2.2.2.2.2.2.2.2.1 _ _ _ hl) (hts _ w1) ⟨y2, y3, z_y2s hy hs⟩ ⟨by show d + 1 + 1 ≤ _; omega, by show 8 + (z_mx y + 11) + 64 * (d + 1) ≤ _; omega⟩, hts _ (w2 hs), trivial⟩ ⟨z_blind, z_pre C hz h3 h5⟩ rfl hlen h6.2.1 z_stack hW hd hcells) kk
      · cases hh
    · cases hst
  case invokespecial y' =>
    simp only [z_rel, Bool.and_eq_true, beq_iff_eq] at hh
    obtain ⟨rfl, hh⟩ := hh
    simp only [z_st] at hst
    split at hst
    · rename_i q hq
      split at hst
      · rename_i hc
        cases hst
        split at hh
        · simp only [Bool.and_eq_true, Bool.or_eq_true, beq_iff_eq, decide_eq_true_eq] at hh
          obtain ⟨⟨rfl, hk⟩, hi⟩ := hh
          obtain ⟨tl, etl, ltl⟩ := z_take hc.1 hc.2.1 hq
          have hW : 2 * (F0 mi pc ls (S.map (zv b (zX adK adV sb fm)))).monitorRoom + (((S.drop (z_na.getD y 0)).map (zv b (zX adK adV sb fm))).map fun v => v.category).sum ≤ 8 := lv_room (by rw [zv_cats hXc]; exact hc.2.2.1)
          have hcat : z_cat (S.take (z_na.getD y 0)).reverse ≤ z_mx y := by
            have : z_cat (S.take (z_na.getD y 0)).reverse = z_cat (S.take (z_na.getD y 0)) := by
              unfold z_cat
              rw [List.map_reverse, List.sum_reverse]
            rw [this]
            exact hc.2.2.2
          have hstk : S.map (zv b (zX adK adV sb fm)) = (tl.map (zv b (zX adK adV sb fm))).reverse ++ .ref (b + q) :: (S.drop (z_na.getD y 0)).map (zv b (zX adK adV sb fm)) := by
            rw [z_stack (k := z_na.getD y 0), etl]
            simp [zv]
          rw [etl] at he hcat
          have hM := fun hy => z_met (l := l) (b := b) (cs := cs) (D := D) (adK := adK) (adV := adV) (sb := sb) (fm := fm) hP hy he hcat h4
          have hll : (tl.map (zv b (zX adK adV sb fm))).length = z_na.getD y 0 - 1 := by rw [List.length_map]; exact ltl
          rcases hk with hk | hk
          · obtain ⟨hy, hl⟩ := z_mk_0 hk
            obtain ⟨y1, y2, y3, y4, y5⟩ := z_y1 hy
            have hns := z_isS hy hi
            obtain ⟨w1, -, w3⟩ := z_y3 hy
            obtain ⟨q1, q2, -⟩ := z_y2i hy hns
            obtain ⟨q3, q4⟩ := q2 hi
            exact z_cont h1 h2 hmono h5 h6 (va_runI hfix (hM hy) ⟨callB_of (z_na.getD y 0 - 1) hts (z_wy_good hy) (by rw [← q4]) rfl rfl (hts _ w1) (hts _ hl) ⟨y2, y3, q1⟩ ⟨by show d + 1 + 1 ≤ _; omega, by show 8 + (z_mx y + 11) + 64 * (d + 1) ≤ _; omega⟩, q3, hts _ (w3 hns).1⟩ ⟨z_blind, z_pre C hz h3 h5⟩ rfl hll h6.2.1 hstk hW hd hcells) kk
          · obtain ⟨hy, hl⟩ := z_mk_1 hk
            obtain ⟨y1, y2, y3, y4, y5⟩ := z_y1 hy
            have hns := z_isS hy hi
            obtain ⟨w1, -, w3⟩ := z_y3 hy
            obtain ⟨q1, q2, -⟩ := z_y2i hy hns
            obtain ⟨q3, q4⟩ := q2 hi
            exact z_cont h1 h2 hmono h5 h6 (va_runIN hfix (hM hy) ⟨va_cnB (z_na.getD y 0 - 1) hts (z_wy_good hy) (by rw [← q4]) rfl rfl (hx.2.2.2.2.2.2.2.2.2.1 _ _ _ hl) (hts _ w1) ⟨y2, y3, q1⟩ ⟨by show d + 1 + 1 ≤ _; omega, by show 8 + (z_mx y + 11) + 64 * (d + 1) ≤ _; omega⟩, q3, hts _ (w3 hns).1⟩ ⟨z_blind, z_pre C hz h3 h5⟩ rfl hll h6.2.1 hstk hW hd hcells) kk
        · cases hh
      · cases hst
    · cases hst
  case invokevirtual y' =>
    simp only [z_rel, Bool.and_eq_true, beq_iff_eq] at hh
    obtain ⟨rfl, hh⟩ := hh
    split at hh
    · simp only [Bool.and_eq_true, Bool.or_eq_true, beq_iff_eq, decide_eq_true_eq, Bool.not_eq_true'] at hh
      obtain ⟨⟨⟨rfl, hk⟩, hs⟩, hi⟩ := hh
      obtain ⟨hy, hl⟩ := z_mk_0 hk
      obtain ⟨y1, y2, y3, y4, y5⟩ := z_y1 hy
      obtain ⟨w1, -, w3⟩ := z_y3 hy
      obtain ⟨q1, -, q2⟩ := z_y2i hy hs
      have q2 := q2 hi
      have hinst := (w3 hs).1
      have hsel := (w3 hs).2 hi
      simp only [z_st] at hst
      split at hst
      · rename_i q hq
        split at hst
        · rename_i hc
          obtain ⟨c1, c2, c3, c4, c5, c6⟩ := hc
          cases hst
          obtain ⟨tl, etl, ltl⟩ := z_take c1 c4 hq
          have hW : 2 * (F0 mi pc ls (S.map (zv b (zX adK adV sb fm)))).monitorRoom + (((S.drop (z_na.getD y 0)).map (zv b (zX adK adV sb fm))).map fun v => v.category).sum ≤ 8 := lv_room (by rw [zv_cats hXc]; exact c5)
          have hcat : z_cat (S.take (z_na.getD y 0)).reverse ≤ z_mx y := by
            have : z_cat (S.take (z_na.getD y 0)).reverse = z_cat (S.take (z_na.getD y 0)) := by
              unfold z_cat
              rw [List.map_reverse, List.sum_reverse]
            rw [this]
            exact c6
          have hstk : S.map (zv b (zX adK adV sb fm)) = (tl.map (zv b (zX adK adV sb fm))).reverse ++ .ref (b + q) :: (S.drop (z_na.getD y 0)).map (zv b (zX adK adV sb fm)) := by
            rw [z_stack (k := z_na.getD y 0), etl]
            simp [zv]
          rw [etl] at he hcat
          have hM := z_met (l := l) (b := b) (cs := cs) (D := D) (adK := adK) (adV := adV) (sb := sb) (fm := fm) hP hy he hcat h4
          have hll : (tl.map (zv b (zX adK adV sb fm))).length = z_na.getD y 0 - 1 := by rw [List.length_map]; exact ltl
          have hno : ¬ z_oc.getD y 99 = 50 := by
            intro h9
            rw [h9] at c3
            have := (h4 q c2).1
            omega
          rw [if_neg hno] at q2
          obtain ⟨o1, o2⟩ := q2
          exact z_cont h1 h2 hmono h5 h6 (va_runV (C := (z_yy y).cls) hfix hM ⟨callB_of (z_na.getD y 0 - 1) hts (z_wy_good hy) rfl rfl rfl (hts _ w1) (hts _ hl) ⟨y2, y3, q1⟩ ⟨by show d + 1 + 1 ≤ _; omega, by show 8 + (z_mx y + 11) + 64 * (d + 1) ≤ _; omega⟩, hts _ hinst, hts _ hsel⟩ ⟨z_blind, by rw [o2]; exact va_recv C.2.2.2.2.2.1 h3 (z_vw o1) (by rw [z_ws_at c2, z_e_o o1 c3]), z_pre C hz h3 h5⟩ rfl hll h6.2.1 hstk hW hd hcells) kk
        · cases hst
      · rename_i q hq
        split at hst
        · rename_i hc
          obtain ⟨c1, c2, c3, c4, c5, c6⟩ := hc
          cases hst
          obtain ⟨tl, etl, ltl⟩ := z_take c1 c4 hq
          have hW : 2 * (F0 mi pc ls (S.map (zv b (zX adK adV sb fm)))).monitorRoom + (((S.drop (z_na.getD y 0)).map (zv b (zX adK adV sb fm))).map fun v => v.category).sum ≤ 8 := lv_room (by rw [zv_cats hXc]; exact c5)
          have hcat : z_cat (S.take (z_na.getD y 0)).reverse ≤ z_mx y := by
            have : z_cat (S.take (z_na.getD y 0)).reverse = z_cat (S.take (z_na.getD y 0)) := by
              unfold z_cat
              rw [List.map_reverse, List.sum_reverse]
            rw [this]
            exact c6
          have e1 : zX adK adV sb fm q = .ref (adK q) := by unfold zX; rw [if_pos c2]
          have hstk : S.map (zv b (zX adK adV sb fm)) = (tl.map (zv b (zX adK adV sb fm))).reverse ++ .ref (adK q) :: (S.drop (z_na.getD y 0)).map (zv b (zX adK adV sb fm)) := by
            rw [z_stack (k := z_na.getD y 0), etl]
            simp [zv, e1]
          rw [etl] at he hcat
          have hM := z_met (l := l) (b := b) (cs := cs) (D := D) (adK := adK) (adV := adV) (sb := sb) (fm := fm) hP hy he hcat h4
          have hll : (tl.map (zv b (zX adK adV sb fm))).length = z_na.getD y 0 - 1 := by rw [List.length_map]; exact ltl
          rw [if_pos c3] at q2
          have hpre : ∀ U : State, U.heap = H → s.WarmedH U.vm → z_Pc x b cs D adK adV sb fm (.retAddr q :: tl) m (Value.ref (adK q) :: tl.map (zv b (zX adK adV sb fm))).toArray U := by
            have := z_pre (as := .retAddr q :: tl) C hz h3 h5
            rw [List.map_cons, show zv b (zX adK adV sb fm) (.retAddr q) = .ref (adK q) from e1] at this
            exact this
          exact z_cont h1 h2 hmono h5 h6 (va_runV (C := (z_yy y).cls) hfix hM ⟨callB_of (z_na.getD y 0 - 1) hts (z_wy_good hy) rfl rfl rfl (hts _ w1) (hts _ hl) ⟨y2, y3, q1⟩ ⟨by show d + 1 + 1 ≤ _; omega, by show 8 + (z_mx y + 11) + 64 * (d + 1) ≤ _; omega⟩, hts _ hinst, hts _ hsel⟩ ⟨z_blind, by rw [q2]; exact vk_recv hx.1 c2 h5, hpre⟩ rfl hll h6.2.1 hstk hW hd hcells) kk
        · cases hst
      · cases hst
    · cases hh
  all_goals
    exfalso
    simp only [z_st] at hst
    first
    | (cases hst; done)
    | ((repeat' (split at hst)) <;> cases hst; done)
end
