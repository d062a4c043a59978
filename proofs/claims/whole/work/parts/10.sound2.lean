/-! EVERY STEP, the rest: arrays, new cells. -/
section
variable {x : Nat × (Nat → Int32)} {b : Nat} {cs : Nat → ClassId} {D : va_G} {adK adV : Nat → Nat} {sb : Nat} {fm : Value} {Y : Nat} {p : Program} {l : Launch} {e : Env} {Rm : Room} {s : State} {mi : MethodId} {args : Array Value} {below : List Frame} {meth : Method} {c : Code} {n0 t0 : Nat} {Q : State → Prop} {pc np tg : Nat} {L S : List Value} {m : zM}
theorem z_ixo {i : Int32} {n k : Nat} (h : z_ix i n = some k) : vp_in i n ∧ i.toNatClampNeg = k := by
  unfold z_ix at h
  split at h
  · cases h
  · rename_i h9
    exact ⟨h9, Option.some.inj h⟩
theorem zs_iald {q k : Nat} {i : Int32} (C : z_C x b cs D adK adV sb fm Y p s mi args meth c) (hck : z_ckE Y (pc, .iaload, np, tg) = true) (hp : q < zn m) (hK : zK m q = 14) (hi : z_ix i (zN m q) = some k) (kk : z_G b cs D (zX adK adV sb fm) Y p l e Rm s mi args below meth c n0 t0 Q np L (.int (zI m q k) :: S) m) : z_G b cs D (zX adK adV sb fm) Y p l e Rm s mi args below meth c n0 t0 Q pc L (.int i :: .ref q :: S) m := by
  obtain ⟨o, len, hd, hh⟩ := z_ckd hck
  simp only [z_rel, Bool.and_eq_true, Bool.or_eq_true, beq_iff_eq, decide_eq_true_eq, Bool.not_eq_true'] at hh
  obtain ⟨rfl, rfl, rfl⟩ := hh
  intro H locs ls cells slots h1 h2 h3 h4 h5 h6
  obtain ⟨hin, rfl⟩ := z_ixo hi
  exact va_iald C.1 C.2.1 C.2.2.2.2.2.1 h3 q 2 (by rw [z_ws_at hp, z_e_i hK (by decide) (by decide) (by decide)]) rfl hin hd (kk H locs ls cells slots h1 h2 h3 h4 h5 h6)
theorem zs_bald {q k : Nat} {i : Int32} (C : z_C x b cs D adK adV sb fm Y p s mi args meth c) (hck : z_ckE Y (pc, .baload, np, tg) = true) (hp : q < zn m) (hK : zK m q = 12) (hi : z_ix i (zN m q) = some k) (kk : z_G b cs D (zX adK adV sb fm) Y p l e Rm s mi args below meth c n0 t0 Q np L (.int (zI m q k) :: S) m) : z_G b cs D (zX adK adV sb fm) Y p l e Rm s mi args below meth c n0 t0 Q pc L (.int i :: .ref q :: S) m := by
  obtain ⟨o, len, hd, hh⟩ := z_ckd hck
  simp only [z_rel, Bool.and_eq_true, Bool.or_eq_true, beq_iff_eq, decide_eq_true_eq, Bool.not_eq_true'] at hh
  obtain ⟨rfl, rfl, rfl⟩ := hh
  intro H locs ls cells slots h1 h2 h3 h4 h5 h6
  obtain ⟨hin, rfl⟩ := z_ixo hi
  exact va_bald C.1 C.2.1 C.2.2.2.2.2.1 h3 q 0 (by rw [z_ws_at hp, z_e_i hK (by decide) (by decide) (by decide)]) rfl hin hd (kk H locs ls cells slots h1 h2 h3 h4 h5 h6)
theorem zs_zald {q k : Nat} {i : Int32} (C : z_C x b cs D adK adV sb fm Y p s mi args meth c) (hck : z_ckE Y (pc, .baload, np, tg) = true) (hp : q < zn m) (hK : zK m q = 16) (hi : z_ix i (zN m q) = some k) (kk : z_G b cs D (zX adK adV sb fm) Y p l e Rm s mi args below meth c n0 t0 Q np L (.int (zI m q k) :: S) m) : z_G b cs D (zX adK adV sb fm) Y p l e Rm s mi args below meth c n0 t0 Q pc L (.int i :: .ref q :: S) m := by
  obtain ⟨o, len, hd, hh⟩ := z_ckd hck
  simp only [z_rel, Bool.and_eq_true, Bool.or_eq_true, beq_iff_eq, decide_eq_true_eq, Bool.not_eq_true'] at hh
  obtain ⟨rfl, rfl, rfl⟩ := hh
  intro H locs ls cells slots h1 h2 h3 h4 h5 h6
  obtain ⟨hin, rfl⟩ := z_ixo hi
  exact va_zald C.1 C.2.1 C.2.2.2.2.2.1 h3 q 4 (by rw [z_ws_at hp, z_e_i hK (by decide) (by decide) (by decide)]) rfl hin hd (kk H locs ls cells slots h1 h2 h3 h4 h5 h6)
theorem zs_cald {q k : Nat} {i : Int32} (C : z_C x b cs D adK adV sb fm Y p s mi args meth c) (hck : z_ckE Y (pc, .caload, np, tg) = true) (hp : q < zn m) (hK : zK m q = 13) (hi : z_ix i (zN m q) = some k) (kk : z_G b cs D (zX adK adV sb fm) Y p l e Rm s mi args below meth c n0 t0 Q np L (.int (zI m q k) :: S) m) : z_G b cs D (zX adK adV sb fm) Y p l e Rm s mi args below meth c n0 t0 Q pc L (.int i :: .ref q :: S) m := by
  obtain ⟨o, len, hd, hh⟩ := z_ckd hck
  simp only [z_rel, Bool.and_eq_true, Bool.or_eq_true, beq_iff_eq, decide_eq_true_eq, Bool.not_eq_true'] at hh
  obtain ⟨rfl, rfl, rfl⟩ := hh
  intro H locs ls cells slots h1 h2 h3 h4 h5 h6
  obtain ⟨hin, rfl⟩ := z_ixo hi
  exact va_cald C.1 C.2.1 C.2.2.2.2.2.1 h3 q 1 (by rw [z_ws_at hp, z_e_i hK (by decide) (by decide) (by decide)]) rfl hin hd (kk H locs ls cells slots h1 h2 h3 h4 h5 h6)
theorem zs_lald {q k : Nat} {i : Int32} (C : z_C x b cs D adK adV sb fm Y p s mi args meth c) (hck : z_ckE Y (pc, .laload, np, tg) = true) (hp : q < zn m) (hK : zK m q = 15) (hi : z_ix i (zN m q) = some k) (kk : z_G b cs D (zX adK adV sb fm) Y p l e Rm s mi args below meth c n0 t0 Q np L (.long (zJ m q k) :: S) m) : z_G b cs D (zX adK adV sb fm) Y p l e Rm s mi args below meth c n0 t0 Q pc L (.int i :: .ref q :: S) m := by
  obtain ⟨o, len, hd, hh⟩ := z_ckd hck
  simp only [z_rel, Bool.and_eq_true, Bool.or_eq_true, beq_iff_eq, decide_eq_true_eq, Bool.not_eq_true'] at hh
  obtain ⟨rfl, rfl, rfl⟩ := hh
  intro H locs ls cells slots h1 h2 h3 h4 h5 h6
  obtain ⟨hin, rfl⟩ := z_ixo hi
  exact va_lald C.1 C.2.1 C.2.2.2.2.2.1 h3 q 3 (by rw [z_ws_at hp, z_e_l hK]) rfl hin hd (kk H locs ls cells slots h1 h2 h3 h4 h5 h6)
theorem z_tyq {kd : Nat} (h1 : 17 ≤ kd) (h2 : kd < 20) : ∃ cl, z_elt kd = some cl ∧ z_ty kd = .object (z_cn cl) ∧ cl < 12 := by
  obtain ⟨j, rfl⟩ : ∃ j, kd = j + 17 := ⟨kd - 17, by omega⟩
  have hj : j < 3 := by omega
  match j, hj with
  | 0, _ => exact ⟨1, rfl, rfl, by decide⟩
  | 1, _ => exact ⟨4, rfl, rfl, by decide⟩
  | 2, _ => exact ⟨6, rfl, rfl, by decide⟩
theorem zs_aald {q k kd : Nat} {i : Int32} (C : z_C x b cs D adK adV sb fm Y p s mi args meth c) (hck : z_ckE Y (pc, .aaload, np, tg) = true) (hp : q < zn m) (hK : zK m q = kd) (g1 : 17 ≤ kd) (g2 : kd < 20) (hi : z_ix i (zN m q) = some k) (kk : z_G b cs D (zX adK adV sb fm) Y p l e Rm s mi args below meth c n0 t0 Q np L (va_rf (zR m q k) :: S) m) : z_G b cs D (zX adK adV sb fm) Y p l e Rm s mi args below meth c n0 t0 Q pc L (.int i :: .ref q :: S) m := by
  obtain ⟨o, len, hd, hh⟩ := z_ckd hck
  simp only [z_rel, Bool.and_eq_true, Bool.or_eq_true, beq_iff_eq, decide_eq_true_eq, Bool.not_eq_true'] at hh
  obtain ⟨rfl, rfl, rfl⟩ := hh
  intro H locs ls cells slots h1 h2 h3 h4 h5 h6
  obtain ⟨hin, rfl⟩ := z_ixo hi
  obtain ⟨cl, -, et, -⟩ := z_tyq g1 g2
  have k9 := (kk H locs ls cells slots h1 h2 h3 h4 h5 h6)
  rw [List.map_cons, zv_rf] at k9
  exact va_aldq C.1 C.2.1 C.2.2.2.2.2.1 h3 q (kd - 12) (by rw [z_ws_at hp, z_e_q hK g1]) (by rw [z_tys_at (by omega) g2, et]) hin hd k9
theorem zs_alen {q : Nat} (C : z_C x b cs D adK adV sb fm Y p s mi args meth c) (hck : z_ckE Y (pc, .arraylength, np, tg) = true) (hp : q < zn m) (g1 : 12 ≤ zK m q) (g2 : zK m q < 20) (kk : z_G b cs D (zX adK adV sb fm) Y p l e Rm s mi args below meth c n0 t0 Q np L (.int (Int32.ofNat (zN m q)) :: S) m) : z_G b cs D (zX adK adV sb fm) Y p l e Rm s mi args below meth c n0 t0 Q pc L (.ref q :: S) m := by
  obtain ⟨o, len, hd, hh⟩ := z_ckd hck
  simp only [z_rel, Bool.and_eq_true, Bool.or_eq_true, beq_iff_eq, decide_eq_true_eq, Bool.not_eq_true'] at hh
  obtain ⟨rfl, rfl, rfl⟩ := hh
  intro H locs ls cells slots h1 h2 h3 h4 h5 h6
  by_cases hJ : zK m q = 15
  · exact va_alen (x := (zN m q, .inr (.inl (zJ m q)))) C.1 C.2.1 C.2.2.2.2.2.1 h3 q 3 (by rw [z_ws_at hp, z_e_l hJ]) rfl rfl hd (kk H locs ls cells slots h1 h2 h3 h4 h5 h6)
  · by_cases hI : zK m q < 17
    · exact va_alen (x := (zN m q, .inl (zI m q))) C.1 C.2.1 C.2.2.2.2.2.1 h3 q (zK m q - 12) (by rw [z_ws_at hp, z_e_i rfl g1 hI hJ]) (z_tys_at g1 g2) rfl hd (kk H locs ls cells slots h1 h2 h3 h4 h5 h6)
    · exact va_alen (x := (zN m q, .inr (.inr (.inr (.inr (fun j => (zR m q j).map (b + ·))))))) C.1 C.2.1 C.2.2.2.2.2.1 h3 q (zK m q - 12) (by rw [z_ws_at hp, z_e_q rfl (by omega)]) (z_tys_at g1 g2) rfl hd (kk H locs ls cells slots h1 h2 h3 h4 h5 h6)
theorem zs_slen  (C : z_C x b cs D adK adV sb fm Y p s mi args meth c) (hck : z_ckE Y (pc, .arraylength, np, tg) = true)  (kk : z_G b cs D (zX adK adV sb fm) Y p l e Rm s mi args below meth c n0 t0 Q np L (.int (Int32.ofNat x.1) :: S) m) : z_G b cs D (zX adK adV sb fm) Y p l e Rm s mi args below meth c n0 t0 Q pc L (.retAddr 30 :: S) m := by
  obtain ⟨o, len, hd, hh⟩ := z_ckd hck
  simp only [z_rel, Bool.and_eq_true, Bool.or_eq_true, beq_iff_eq, decide_eq_true_eq, Bool.not_eq_true'] at hh
  obtain ⟨rfl, rfl, rfl⟩ := hh
  intro H locs ls cells slots h1 h2 h3 h4 h5 h6
  have hx := C.2.2.2.2.2.2.1.2.2.2.2
  exact va_slen C.1 C.2.1 hx.1 (Nat.lt_of_lt_of_le hx.2.1 hx.2.2.1) (fun z => absurd (show b ≤ sb from z) (Nat.not_le.mpr hx.2.1)) h5 hd (kk H locs ls cells slots h1 h2 h3 h4 h5 h6)
theorem zs_blen {q : Nat} (C : z_C x b cs D adK adV sb fm Y p s mi args meth c) (hck : z_ckE Y (pc, .arraylength, np, tg) = true) (hq : q < 6) (kk : z_G b cs D (zX adK adV sb fm) Y p l e Rm s mi args below meth c n0 t0 Q np L (.int (Int32.ofNat (z_len.getD q 0)) :: S) m) : z_G b cs D (zX adK adV sb fm) Y p l e Rm s mi args below meth c n0 t0 Q pc L (.retAddr (q + 10) :: S) m := by
  obtain ⟨o, len, hd, hh⟩ := z_ckd hck
  simp only [z_rel, Bool.and_eq_true, Bool.or_eq_true, beq_iff_eq, decide_eq_true_eq, Bool.not_eq_true'] at hh
  obtain ⟨rfl, rfl, rfl⟩ := hh
  intro H locs ls cells slots h1 h2 h3 h4 h5 h6
  have e2 : zX adK adV sb fm (q + 10) = .ref (adV q) := by unfold zX; rw [if_neg (by omega), if_pos (by omega), Nat.add_sub_cancel]
  rw [List.map_cons, show zv b (zX adK adV sb fm) (.retAddr (q + 10)) = .ref (adV q) from e2]
  exact va_tlen C.1 C.2.1 (C.2.2.2.2.2.2.1.1.1 q hq).2.2.2 h5 rfl hd (kk H locs ls cells slots h1 h2 h3 h4 h5 h6)
theorem zs_sld {k : Nat} {i : Int32} (C : z_C x b cs D adK adV sb fm Y p s mi args meth c) (hck : z_ckE Y (pc, .iaload, np, tg) = true) (hi : z_ix i x.1 = some k) (kk : z_G b cs D (zX adK adV sb fm) Y p l e Rm s mi args below meth c n0 t0 Q np L (.int (x.2 k) :: S) m) : z_G b cs D (zX adK adV sb fm) Y p l e Rm s mi args below meth c n0 t0 Q pc L (.int i :: .retAddr 30 :: S) m := by
  obtain ⟨o, len, hd, hh⟩ := z_ckd hck
  simp only [z_rel, Bool.and_eq_true, Bool.or_eq_true, beq_iff_eq, decide_eq_true_eq, Bool.not_eq_true'] at hh
  obtain ⟨rfl, rfl, rfl⟩ := hh
  intro H locs ls cells slots h1 h2 h3 h4 h5 h6
  obtain ⟨hin, rfl⟩ := z_ixo hi
  have hx := C.2.2.2.2.2.2.1.2.2.2.2
  exact va_sld C.1 C.2.1 hx.1 (Nat.lt_of_lt_of_le hx.2.1 hx.2.2.1) (fun z => absurd (show b ≤ sb from z) (Nat.not_le.mpr hx.2.1)) h5 hin hd (kk H locs ls cells slots h1 h2 h3 h4 h5 h6)
theorem zs_bldx {q k : Nat} {i : Int32} (C : z_C x b cs D adK adV sb fm Y p s mi args meth c) (hck : z_ckE Y (pc, .baload, np, tg) = true) (hq : q < 6) (hi : z_ix i (z_len.getD q 0) = some k) (kk : z_G b cs D (zX adK adV sb fm) Y p l e Rm s mi args below meth c n0 t0 Q np L (.int ((z_byt.getD q []).getD k 0) :: S) m) : z_G b cs D (zX adK adV sb fm) Y p l e Rm s mi args below meth c n0 t0 Q pc L (.int i :: .retAddr (q + 10) :: S) m := by
  obtain ⟨o, len, hd, hh⟩ := z_ckd hck
  simp only [z_rel, Bool.and_eq_true, Bool.or_eq_true, beq_iff_eq, decide_eq_true_eq, Bool.not_eq_true'] at hh
  obtain ⟨rfl, rfl, rfl⟩ := hh
  intro H locs ls cells slots h1 h2 h3 h4 h5 h6
  obtain ⟨hin, rfl⟩ := z_ixo hi
  have e2 : zX adK adV sb fm (q + 10) = .ref (adV q) := by unfold zX; rw [if_neg (by omega), if_pos (by omega), Nat.add_sub_cancel]
  rw [List.map_cons, List.map_cons, show zv b (zX adK adV sb fm) (.retAddr (q + 10)) = .ref (adV q) from e2]
  exact va_tb C.1 C.2.1 (C.2.2.2.2.2.2.1.1.1 q hq).2.2.2 h5 hin rfl hd (kk H locs ls cells slots h1 h2 h3 h4 h5 h6)
theorem zs_iast {q k : Nat} {i v : Int32} (C : z_C x b cs D adK adV sb fm Y p s mi args meth c) (hck : z_ckE Y (pc, .iastore, np, tg) = true) (hp : q < zn m) (hK : zK m q = 14) (hi : z_ix i (zN m q) = some k) (kk : z_G b cs D (zX adK adV sb fm) Y p l e Rm s mi args below meth c n0 t0 Q np L S (sI m q k (v))) : z_G b cs D (zX adK adV sb fm) Y p l e Rm s mi args below meth c n0 t0 Q pc L (.int v :: .int i :: .ref q :: S) m := by
  obtain ⟨o, len, hd, hh⟩ := z_ckd hck
  simp only [z_rel, Bool.and_eq_true, Bool.or_eq_true, beq_iff_eq, decide_eq_true_eq, Bool.not_eq_true'] at hh
  obtain ⟨rfl, rfl, rfl⟩ := hh
  intro H locs ls cells slots h1 h2 h3 h4 h5 h6
  obtain ⟨hin, rfl⟩ := z_ixo hi
  exact va_iast C.1 C.2.1 C.2.2.2.2.2.1 h3 z_D h5 q 2 (by rw [z_ws_at hp, z_e_i hK (by decide) (by decide) (by decide)]) rfl hin hd (fun H1 locs1 hP1 hD1 hS1 => kk H1 locs1 ls cells slots h1 h2 (by
    rw [z_ws_set (m := m) (m' := sI m q i.toNatClampNeg (v)) q rfl hp (fun j hj => z_e_cong (z_u_ne hj) rfl rfl rfl rfl), z_e_i (m := sI m q i.toNatClampNeg (v)) hK (by decide) (by decide) (by decide)]
    have e : zI (sI m q i.toNatClampNeg (v)) q = upd (zI m q) i.toNatClampNeg (v) := by
      funext j
      simp [zI, sI, z_u, upd]
    rw [e]
    exact hP1) (fun p9 g1 => h4 p9 g1) hS1 h6)
theorem zs_bast {q k : Nat} {i v : Int32} (C : z_C x b cs D adK adV sb fm Y p s mi args meth c) (hck : z_ckE Y (pc, .bastore, np, tg) = true) (hp : q < zn m) (hK : zK m q = 12) (hi : z_ix i (zN m q) = some k) (kk : z_G b cs D (zX adK adV sb fm) Y p l e Rm s mi args below meth c n0 t0 Q np L S (sI m q k (vp_nar .byte v))) : z_G b cs D (zX adK adV sb fm) Y p l e Rm s mi args below meth c n0 t0 Q pc L (.int v :: .int i :: .ref q :: S) m := by
  obtain ⟨o, len, hd, hh⟩ := z_ckd hck
  simp only [z_rel, Bool.and_eq_true, Bool.or_eq_true, beq_iff_eq, decide_eq_true_eq, Bool.not_eq_true'] at hh
  obtain ⟨rfl, rfl, rfl⟩ := hh
  intro H locs ls cells slots h1 h2 h3 h4 h5 h6
  obtain ⟨hin, rfl⟩ := z_ixo hi
  exact va_bast C.1 C.2.1 C.2.2.2.2.2.1 h3 z_D h5 q 0 (by rw [z_ws_at hp, z_e_i hK (by decide) (by decide) (by decide)]) rfl hin hd (fun H1 locs1 hP1 hD1 hS1 => kk H1 locs1 ls cells slots h1 h2 (by
    rw [z_ws_set (m := m) (m' := sI m q i.toNatClampNeg (vp_nar .byte v)) q rfl hp (fun j hj => z_e_cong (z_u_ne hj) rfl rfl rfl rfl), z_e_i (m := sI m q i.toNatClampNeg (vp_nar .byte v)) hK (by decide) (by decide) (by decide)]
    have e : zI (sI m q i.toNatClampNeg (vp_nar .byte v)) q = upd (zI m q) i.toNatClampNeg (vp_nar .byte v) := by
      funext j
      simp [zI, sI, z_u, upd]
    rw [e]
    exact hP1) (fun p9 g1 => h4 p9 g1) hS1 h6)
theorem zs_zast {q k : Nat} {i v : Int32} (C : z_C x b cs D adK adV sb fm Y p s mi args meth c) (hck : z_ckE Y (pc, .bastore, np, tg) = true) (hp : q < zn m) (hK : zK m q = 16) (hi : z_ix i (zN m q) = some k) (kk : z_G b cs D (zX adK adV sb fm) Y p l e Rm s mi args below meth c n0 t0 Q np L S (sI m q k (vp_nar .boolean v))) : z_G b cs D (zX adK adV sb fm) Y p l e Rm s mi args below meth c n0 t0 Q pc L (.int v :: .int i :: .ref q :: S) m := by
  obtain ⟨o, len, hd, hh⟩ := z_ckd hck
  simp only [z_rel, Bool.and_eq_true, Bool.or_eq_true, beq_iff_eq, decide_eq_true_eq, Bool.not_eq_true'] at hh
  obtain ⟨rfl, rfl, rfl⟩ := hh
  intro H locs ls cells slots h1 h2 h3 h4 h5 h6
  obtain ⟨hin, rfl⟩ := z_ixo hi
  exact va_zast C.1 C.2.1 C.2.2.2.2.2.1 h3 z_D h5 q 4 (by rw [z_ws_at hp, z_e_i hK (by decide) (by decide) (by decide)]) rfl hin hd (fun H1 locs1 hP1 hD1 hS1 => kk H1 locs1 ls cells slots h1 h2 (by
    rw [z_ws_set (m := m) (m' := sI m q i.toNatClampNeg (vp_nar .boolean v)) q rfl hp (fun j hj => z_e_cong (z_u_ne hj) rfl rfl rfl rfl), z_e_i (m := sI m q i.toNatClampNeg (vp_nar .boolean v)) hK (by decide) (by decide) (by decide)]
    have e : zI (sI m q i.toNatClampNeg (vp_nar .boolean v)) q = upd (zI m q) i.toNatClampNeg (vp_nar .boolean v) := by
      funext j
      simp [zI, sI, z_u, upd]
    rw [e]
    exact hP1) (fun p9 g1 => h4 p9 g1) hS1 h6)
theorem zs_cast {q k : Nat} {i v : Int32} (C : z_C x b cs D adK adV sb fm Y p s mi args meth c) (hck : z_ckE Y (pc, .castore, np, tg) = true) (hp : q < zn m) (hK : zK m q = 13) (hi : z_ix i (zN m q) = some k) (kk : z_G b cs D (zX adK adV sb fm) Y p l e Rm s mi args below meth c n0 t0 Q np L S (sI m q k (vp_nar .char v))) : z_G b cs D (zX adK adV sb fm) Y p l e Rm s mi args below meth c n0 t0 Q pc L (.int v :: .int i :: .ref q :: S) m := by
  obtain ⟨o, len, hd, hh⟩ := z_ckd hck
  simp only [z_rel, Bool.and_eq_true, Bool.or_eq_true, beq_iff_eq, decide_eq_true_eq, Bool.not_eq_true'] at hh
  obtain ⟨rfl, rfl, rfl⟩ := hh
  intro H locs ls cells slots h1 h2 h3 h4 h5 h6
  obtain ⟨hin, rfl⟩ := z_ixo hi
  exact va_cast C.1 C.2.1 C.2.2.2.2.2.1 h3 z_D h5 q 1 (by rw [z_ws_at hp, z_e_i hK (by decide) (by decide) (by decide)]) rfl hin hd (fun H1 locs1 hP1 hD1 hS1 => kk H1 locs1 ls cells slots h1 h2 (by
    rw [z_ws_set (m := m) (m' := sI m q i.toNatClampNeg (vp_nar .char v)) q rfl hp (fun j hj => z_e_cong (z_u_ne hj) rfl rfl rfl rfl), z_e_i (m := sI m q i.toNatClampNeg (vp_nar .char v)) hK (by decide) (by decide) (by decide)]
    have e : zI (sI m q i.toNatClampNeg (vp_nar .char v)) q = upd (zI m q) i.toNatClampNeg (vp_nar .char v) := by
      funext j
      simp [zI, sI, z_u, upd]
    rw [e]
    exact hP1) (fun p9 g1 => h4 p9 g1) hS1 h6)
theorem zs_last {q k : Nat} {i : Int32} {v : Int64} (C : z_C x b cs D adK adV sb fm Y p s mi args meth c) (hck : z_ckE Y (pc, .lastore, np, tg) = true) (hp : q < zn m) (hK : zK m q = 15) (hi : z_ix i (zN m q) = some k) (kk : z_G b cs D (zX adK adV sb fm) Y p l e Rm s mi args below meth c n0 t0 Q np L S (sJ m q k v)) : z_G b cs D (zX adK adV sb fm) Y p l e Rm s mi args below meth c n0 t0 Q pc L (.long v :: .int i :: .ref q :: S) m := by
  obtain ⟨o, len, hd, hh⟩ := z_ckd hck
  simp only [z_rel, Bool.and_eq_true, Bool.or_eq_true, beq_iff_eq, decide_eq_true_eq, Bool.not_eq_true'] at hh
  obtain ⟨rfl, rfl, rfl⟩ := hh
  intro H locs ls cells slots h1 h2 h3 h4 h5 h6
  obtain ⟨hin, rfl⟩ := z_ixo hi
  exact va_last C.1 C.2.1 C.2.2.2.2.2.1 h3 z_D h5 q 3 (by rw [z_ws_at hp, z_e_l hK]) rfl hin hd (fun H1 locs1 hP1 hD1 hS1 => kk H1 locs1 ls cells slots h1 h2 (by
    rw [z_ws_set (m := m) (m' := sJ m q i.toNatClampNeg v) q rfl hp (fun j hj => z_e_cong rfl (z_u_ne hj) rfl rfl rfl), z_e_l (m := sJ m q i.toNatClampNeg v) hK]
    have e : zJ (sJ m q i.toNatClampNeg v) q = vp_updL (zJ m q) i.toNatClampNeg v := by
      funext j
      simp [zJ, sJ, z_u, vp_updL]
    rw [e]
    exact hP1) (fun p9 g1 => h4 p9 g1) hS1 h6)
theorem zs_aast {q k w : Nat} {i : Int32} (C : z_C x b cs D adK adV sb fm Y p s mi args meth c) (hck : z_ckE Y (pc, .aastore, np, tg) = true) (hp : q < zn m) (hw : w < zn m) (he : z_elt (zK m q) = some (zK m w)) (hi : z_ix i (zN m q) = some k) (kk : z_G b cs D (zX adK adV sb fm) Y p l e Rm s mi args below meth c n0 t0 Q np L S (sR m q k (some w))) : z_G b cs D (zX adK adV sb fm) Y p l e Rm s mi args below meth c n0 t0 Q pc L (.ref w :: .int i :: .ref q :: S) m := by
  obtain ⟨o, len, hd, hh⟩ := z_ckd hck
  simp only [z_rel, Bool.and_eq_true, Bool.or_eq_true, beq_iff_eq, decide_eq_true_eq, Bool.not_eq_true'] at hh
  obtain ⟨rfl, rfl, rfl⟩ := hh
  intro H locs ls cells slots h1 h2 h3 h4 h5 h6
  obtain ⟨hin, rfl⟩ := z_ixo hi
  have g : 17 ≤ zK m q ∧ zK m q < 20 := by
    unfold z_elt at he
    split at he
    · omega
    · split at he
      · omega
      · split at he
        · omega
        · cases he
  obtain ⟨cl, e1, et, hcl⟩ := z_tyq g.1 g.2
  have e2 : zK m w = cl := Option.some.inj (he.symm.trans e1)
  exact va_astq (r := (z_cn cl, z_Ts cl, z_fn cl)) C.1 C.2.1 C.2.2.2.2.2.1 h3 z_D h5 q (zK m q - 12) w cl (by rw [z_ws_at hp, z_e_q rfl g.1]) (by rw [z_tys_at (by omega) g.2, et]) (by rw [z_ws_at hw, z_e_o hcl e2]) (z_vw hcl) hin hd (fun H1 locs1 hP1 hD1 hS1 => kk H1 locs1 ls cells slots h1 h2 (by
    rw [z_ws_set (m := m) (m' := sR m q i.toNatClampNeg (some w)) q rfl hp (fun j hj => z_e_cong rfl rfl (z_u_ne hj) rfl rfl), z_e_q (m := sR m q i.toNatClampNeg (some w)) rfl g.1]
    have e : (fun j => (zR (sR m q i.toNatClampNeg (some w)) q j).map (b + ·)) = va_up (fun j => (zR m q j).map (b + ·)) i.toNatClampNeg (some (b + w)) := by
      funext j
      by_cases hj : j = i.toNatClampNeg
      · subst hj
        simp [zR, sR, z_u, va_up]
      · simp [zR, sR, z_u, va_up, hj]
    rw [e]
    exact hP1) (fun p9 g1 => h4 p9 g1) hS1 h6)
theorem z_fresh {ws : va_W} {D' : va_G} {q : Nat} {E : va_E} {H1 : Heap} (hws : ws = z_ws b cs m) (hP : va_P D' vwCl (ws ++ [(q, E)]) H1) (hD : va_D (z_A b) (ws ++ [(q, E)])) (hz : H1.size ≤ b + (zn m + 1)) : q = b + zn m := by
  subst hws
  have hl : (z_ws b cs m).length = zn m := by simp [z_ws]
  have hk : (z_ws b cs m ++ [(q, E)])[zn m]? = some (q, E) := by
    rw [List.getElem?_append_right (by omega), hl, Nat.sub_self]
    rfl
  have h1 : b ≤ q := hD.2 _ _ hk
  have h2 : q < H1.size := (hP _ _ hk).lt
  by_cases hq : q < b + zn m
  · have h3 : (z_ws b cs m ++ [(q, E)])[q - b]? = some (b + (q - b), z_e b cs m (q - b)) := by
      rw [List.getElem?_append_left (by omega), z_ws_at (by omega)]
    have := hD.1 _ _ _ _ h3 hk (by show b + (q - b) = q; omega)
    omega
  · omega
/-- the rows of a memory with a new cell -/
theorem z_new_old {kd len q : Nat} (h : q < zn m) : z_e b cs (sC m kd len) q = z_e b cs m q := z_e_cong (z_r_ne (by omega)) (z_r_ne (by omega)) (z_r_ne (by omega)) (z_1_ne (by omega)) (z_1_ne (by omega))
theorem z_wf_new {kd len : Nat} (h : z_wf m) (h20 : kd < 20) (hk : kd < 12 → len = z_fn kd) : z_wf (sC m kd len) := by
  intro p9 g1
  by_cases hp : p9 = zn m
  · subst hp
    rw [show zK (sC m kd len) (zn m) = kd from z_1_eq, show zN (sC m kd len) (zn m) = len from z_1_eq]
    exact ⟨h20, hk⟩
  · have e1 : zK (sC m kd len) p9 = zK m p9 := z_1_ne hp
    have e2 : zN (sC m kd len) p9 = zN m p9 := z_1_ne hp
    rw [e1, e2]
    exact h p9 (by have : p9 < zn m + 1 := g1; omega)
theorem zs_new {cl : Nat} (C : z_C x b cs D adK adV sb fm Y p s mi args meth c) (hck : z_ckE Y (pc, .new cl, np, tg) = true) (hn : s.heap.size = b + n0) (hr1 : zn m + 1 ≤ n0 + Rm.cells) (hr2 : zt m + z_fn cl ≤ t0 + Rm.slots) (hcl : cl < 12) (kk : z_G b cs D (zX adK adV sb fm) Y p l e Rm s mi args below meth c n0 t0 Q np L (.ref (zn m) :: S) (sC m cl (z_fn cl))) : z_G b cs D (zX adK adV sb fm) Y p l e Rm s mi args below meth c n0 t0 Q pc L (S) m := by
  obtain ⟨o, len, hd, hh⟩ := z_ckd hck
  simp only [z_rel, Bool.and_eq_true, Bool.or_eq_true, beq_iff_eq, decide_eq_true_eq, Bool.not_eq_true'] at hh
  obtain ⟨rfl, hh⟩ := hh
  intro H locs ls cells slots h1 h2 h3 h4 h5 h6
  split at hh
  · simp only [Bool.and_eq_true, beq_iff_eq, decide_eq_true_eq] at hh
    obtain ⟨rfl, hk⟩ := hh
    have hw := z_ck_ok _ hk
    simp only [z_cnE, if_pos (show cl < 100 by omega)] at hw
    obtain ⟨hi1, hi2⟩ := z_inst_ok cl (List.mem_range.mpr hcl)
    have hK0 : zK (sC m cl (z_fn cl)) (zn m) = cl := z_1_eq
    have hN0 : zN (sC m cl (z_fn cl)) (zn m) = z_fn cl := z_1_eq
    have hE : z_e b cs (sC m cl (z_fn cl)) (zn m) = .inr (cl, (List.range (z_fn cl)).map (z_fv b (sC m cl (z_fn cl)) (zn m))) := by rw [z_e_o hcl hK0, hN0]
    refine va_new (ci := cl) (C := z_cn cl) (T := z_Ts cl) (N := z_fn cl) (fs := (List.range (z_fn cl)).map (z_fv b (sC m cl (z_fn cl)) (zn m))) C.1 C.2.1 C.2.2.2.2.1 (z_ly_ok hcl) (z_tyX cl) (fun k9 hk9 => (z_ty_ok hcl hk9).1) C.2.2.2.1 (C.2.2.2.2.1 _ (z_in hw rfl)) (C.2.2.2.2.1 _ (z_in hi1 rfl)) (C.2.2.2.2.1 _ (z_in hi2 rfl)) C.2.2.2.2.2.1 h3 z_D h5 (fun q9 g9 => by show b ≤ q9; omega) (z_vw hcl) (fun j hj => ?_) (by omega) (by omega) hd (fun q9 H1 hP1 hD1 hS1 => ?_)
    · have e0 : z_fv b (sC m cl (z_fn cl)) (zn m) j = if (z_ref.getD cl []).getD j false then .null else .int 0 := by
        unfold z_fv
        rw [hK0]
        have r1 : zR (sC m cl (z_fn cl)) (zn m) j = none := by simp [zR, sC, z_r]
        have r2 : zI (sC m cl (z_fn cl)) (zn m) j = 0 := by simp [zI, sC, z_r]
        rw [r1, r2]
        rfl
      have e1 : vp_V ((List.range (z_fn cl)).map (z_fv b (sC m cl (z_fn cl)) (zn m))) j = z_fv b (sC m cl (z_fn cl)) (zn m) j := by simp [vp_V, hj]
      rw [e1, e0]
      have hkd := (z_ty_ok hcl hj).2.2
      by_cases h9 : (z_ref.getD cl []).getD j false = true
      · rw [if_pos h9] at hkd ⊢
        revert hkd
        cases z_tyX cl j <;> simp [refKind, defaultValue]
      · rw [if_neg h9] at hkd ⊢
        split at hkd
        · simp only [decide_eq_true_eq] at hkd
          rw [hkd]; rfl
        · simp only [decide_eq_true_eq] at hkd
          rw [hkd]; rfl
    · refine z_size fun hz => ?_
      have e9 : q9 = b + zn m := z_fresh (m := m) (cs := cs) rfl hP1 hD1 (by omega)
      subst e9
      refine kk H1 locs ls (cells + 1) (slots + z_fn cl) (by show n0 + (cells + 1) = zn m + 1; omega) (by show t0 + (slots + z_fn cl) = zt m + z_fn cl; omega) ?_ (z_wf_new h4 (by omega) (fun _ => rfl)) hS1 h6
      rw [z_ws_push (m := m) (m' := sC m cl (z_fn cl)) rfl (fun q8 g8 => z_new_old g8), hE]
      exact hP1
  · cases hh
end
