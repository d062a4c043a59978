/-! EVERY STEP, the rest: new arrays, clone, arraycopy, Object.<init>, Math.min. -/
section
variable {x : Nat × (Nat → Int32)} {b : Nat} {cs : Nat → ClassId} {D : va_G} {adK adV : Nat → Nat} {sb : Nat} {fm : Value} {Y : Nat} {p : Program} {l : Launch} {e : Env} {Rm : Room} {s : State} {mi : MethodId} {args : Array Value} {below : List Frame} {meth : Method} {c : Code} {n0 t0 : Nat} {Q : State → Prop} {pc np tg : Nat} {L S : List Value} {m : zM}
set_option maxRecDepth 100000 in
theorem zs_newa_byte {n : Int32} {N : Nat} (C : z_C x b cs D adK adV sb fm Y p s mi args meth c) (hck : z_ckE Y (pc, .newarray .byte, np, tg) = true) (hn0 : s.heap.size = b + n0) (hr1 : zn m + 1 ≤ n0 + Rm.cells) (hr2 : zt m + N ≤ t0 + Rm.slots) (hn : ¬ n < 0) (hN : n.toNatClampNeg = N) (hle : N ≤ 65536) (kk : z_G b cs D (zX adK adV sb fm) Y p l e Rm s mi args below meth c n0 t0 Q np L (.ref (zn m) :: S) (sC m 12 N)) : z_G b cs D (zX adK adV sb fm) Y p l e Rm s mi args below meth c n0 t0 Q pc L (.int n :: S) m := by
  obtain ⟨o, len, hd, hh⟩ := z_ckd hck
  simp only [z_rel, Bool.and_eq_true, Bool.or_eq_true, beq_iff_eq, decide_eq_true_eq, Bool.not_eq_true'] at hh
  obtain ⟨rfl, rfl, rfl⟩ := hh
  intro H locs ls cells slots h1 h2 h3 h4 h5 h6
  have hby : N * componentBytes .byte ≤ 536870912 := by
    have e : componentBytes .byte ≤ 8 := by decide
    have e2 := Nat.mul_le_mul_left N e
    omega
  have hK0 : zK (sC m 12 N) (zn m) = 12 := z_1_eq
  have hN0 : zN (sC m 12 N) (zn m) = N := z_1_eq
  have hE : z_e b cs (sC m 12 N) (zn m) = .inl (cs 12, N, .inl (fun _ => 0)) := by rw [z_e_i hK0 (by decide) (by decide) (by decide), hN0, show zI (sC m 12 N) (zn m) = (fun _ => 0) from z_r_eq]
  have hac : Cond.arrayClass .byte ∈ z_tb := z_in (by decide +kernel) rfl
  refine va_newa (atype := .byte) (ty := .byte) (a0 := (N, .inl (fun _ => 0))) C.1 C.2.1 (C.2.2.2.2.1 _ hac) rfl C.2.2.2.2.2.1 h3 z_D h5 (fun q9 g9 => by show b ≤ q9; omega) (fun _ => rfl) hn hN hby (by omega) (by omega) hd (fun q9 cA H1 hK1 hP1 hD1 hS1 => ?_)
  have ec : cA = cs 12 := by
    have g1 : s.vm.findClass ("[" ++ (.byte : FieldType).toString) = some cA := (hK1.2 8 (cA, .byte) rfl).2
    have g2 : s.vm.findClass ("[" ++ (.byte : FieldType).toString) = some (cs 12) := (C.2.2.2.2.2.1.2 0 (cs 12, .byte) rfl).2
    exact Option.some.inj (g1.symm.trans g2)
  subst ec
  refine z_size fun hz => ?_
  have e9 : q9 = b + zn m := z_fresh (m := m) (cs := cs) rfl hP1 hD1 (by omega)
  subst e9
  refine kk H1 locs ls (cells + 1) (slots + N) (by show n0 + (cells + 1) = zn m + 1; omega) (by show t0 + (slots + N) = zt m + N; omega) ?_ (z_wf_new h4 (by omega) (fun h9 => absurd h9 (by decide))) hS1 h6
  rw [z_ws_push (m := m) (m' := sC m 12 N) rfl (fun q8 g8 => z_new_old g8), hE]
  exact hP1
set_option maxRecDepth 100000 in
theorem zs_newa_char {n : Int32} {N : Nat} (C : z_C x b cs D adK adV sb fm Y p s mi args meth c) (hck : z_ckE Y (pc, .newarray .char, np, tg) = true) (hn0 : s.heap.size = b + n0) (hr1 : zn m + 1 ≤ n0 + Rm.cells) (hr2 : zt m + N ≤ t0 + Rm.slots) (hn : ¬ n < 0) (hN : n.toNatClampNeg = N) (hle : N ≤ 65536) (kk : z_G b cs D (zX adK adV sb fm) Y p l e Rm s mi args below meth c n0 t0 Q np L (.ref (zn m) :: S) (sC m 13 N)) : z_G b cs D (zX adK adV sb fm) Y p l e Rm s mi args below meth c n0 t0 Q pc L (.int n :: S) m := by
  obtain ⟨o, len, hd, hh⟩ := z_ckd hck
  simp only [z_rel, Bool.and_eq_true, Bool.or_eq_true, beq_iff_eq, decide_eq_true_eq, Bool.not_eq_true'] at hh
  obtain ⟨rfl, rfl, rfl⟩ := hh
  intro H locs ls cells slots h1 h2 h3 h4 h5 h6
  have hby : N * componentBytes .char ≤ 536870912 := by
    have e : componentBytes .char ≤ 8 := by decide
    have e2 := Nat.mul_le_mul_left N e
    omega
  have hK0 : zK (sC m 13 N) (zn m) = 13 := z_1_eq
  have hN0 : zN (sC m 13 N) (zn m) = N := z_1_eq
  have hE : z_e b cs (sC m 13 N) (zn m) = .inl (cs 13, N, .inl (fun _ => 0)) := by rw [z_e_i hK0 (by decide) (by decide) (by decide), hN0, show zI (sC m 13 N) (zn m) = (fun _ => 0) from z_r_eq]
  have hac : Cond.arrayClass .char ∈ z_tb := z_in (by decide +kernel) rfl
  refine va_newa (atype := .char) (ty := .char) (a0 := (N, .inl (fun _ => 0))) C.1 C.2.1 (C.2.2.2.2.1 _ hac) rfl C.2.2.2.2.2.1 h3 z_D h5 (fun q9 g9 => by show b ≤ q9; omega) (fun _ => rfl) hn hN hby (by omega) (by omega) hd (fun q9 cA H1 hK1 hP1 hD1 hS1 => ?_)
  have ec : cA = cs 13 := by
    have g1 : s.vm.findClass ("[" ++ (.char : FieldType).toString) = some cA := (hK1.2 8 (cA, .char) rfl).2
    have g2 : s.vm.findClass ("[" ++ (.char : FieldType).toString) = some (cs 13) := (C.2.2.2.2.2.1.2 1 (cs 13, .char) rfl).2
    exact Option.some.inj (g1.symm.trans g2)
  subst ec
  refine z_size fun hz => ?_
  have e9 : q9 = b + zn m := z_fresh (m := m) (cs := cs) rfl hP1 hD1 (by omega)
  subst e9
  refine kk H1 locs ls (cells + 1) (slots + N) (by show n0 + (cells + 1) = zn m + 1; omega) (by show t0 + (slots + N) = zt m + N; omega) ?_ (z_wf_new h4 (by omega) (fun h9 => absurd h9 (by decide))) hS1 h6
  rw [z_ws_push (m := m) (m' := sC m 13 N) rfl (fun q8 g8 => z_new_old g8), hE]
  exact hP1
set_option maxRecDepth 100000 in
theorem zs_newa_int {n : Int32} {N : Nat} (C : z_C x b cs D adK adV sb fm Y p s mi args meth c) (hck : z_ckE Y (pc, .newarray .int, np, tg) = true) (hn0 : s.heap.size = b + n0) (hr1 : zn m + 1 ≤ n0 + Rm.cells) (hr2 : zt m + N ≤ t0 + Rm.slots) (hn : ¬ n < 0) (hN : n.toNatClampNeg = N) (hle : N ≤ 65536) (kk : z_G b cs D (zX adK adV sb fm) Y p l e Rm s mi args below meth c n0 t0 Q np L (.ref (zn m) :: S) (sC m 14 N)) : z_G b cs D (zX adK adV sb fm) Y p l e Rm s mi args below meth c n0 t0 Q pc L (.int n :: S) m := by
  obtain ⟨o, len, hd, hh⟩ := z_ckd hck
  simp only [z_rel, Bool.and_eq_true, Bool.or_eq_true, beq_iff_eq, decide_eq_true_eq, Bool.not_eq_true'] at hh
  obtain ⟨rfl, rfl, rfl⟩ := hh
  intro H locs ls cells slots h1 h2 h3 h4 h5 h6
  have hby : N * componentBytes .int ≤ 536870912 := by
    have e : componentBytes .int ≤ 8 := by decide
    have e2 := Nat.mul_le_mul_left N e
    omega
  have hK0 : zK (sC m 14 N) (zn m) = 14 := z_1_eq
  have hN0 : zN (sC m 14 N) (zn m) = N := z_1_eq
  have hE : z_e b cs (sC m 14 N) (zn m) = .inl (cs 14, N, .inl (fun _ => 0)) := by rw [z_e_i hK0 (by decide) (by decide) (by decide), hN0, show zI (sC m 14 N) (zn m) = (fun _ => 0) from z_r_eq]
  have hac : Cond.arrayClass .int ∈ z_tb := z_in (by decide +kernel) rfl
  refine va_newa (atype := .int) (ty := .int) (a0 := (N, .inl (fun _ => 0))) C.1 C.2.1 (C.2.2.2.2.1 _ hac) rfl C.2.2.2.2.2.1 h3 z_D h5 (fun q9 g9 => by show b ≤ q9; omega) (fun _ => rfl) hn hN hby (by omega) (by omega) hd (fun q9 cA H1 hK1 hP1 hD1 hS1 => ?_)
  have ec : cA = cs 14 := by
    have g1 : s.vm.findClass ("[" ++ (.int : FieldType).toString) = some cA := (hK1.2 8 (cA, .int) rfl).2
    have g2 : s.vm.findClass ("[" ++ (.int : FieldType).toString) = some (cs 14) := (C.2.2.2.2.2.1.2 2 (cs 14, .int) rfl).2
    exact Option.some.inj (g1.symm.trans g2)
  subst ec
  refine z_size fun hz => ?_
  have e9 : q9 = b + zn m := z_fresh (m := m) (cs := cs) rfl hP1 hD1 (by omega)
  subst e9
  refine kk H1 locs ls (cells + 1) (slots + N) (by show n0 + (cells + 1) = zn m + 1; omega) (by show t0 + (slots + N) = zt m + N; omega) ?_ (z_wf_new h4 (by omega) (fun h9 => absurd h9 (by decide))) hS1 h6
  rw [z_ws_push (m := m) (m' := sC m 14 N) rfl (fun q8 g8 => z_new_old g8), hE]
  exact hP1
set_option maxRecDepth 100000 in
theorem zs_newa_long {n : Int32} {N : Nat} (C : z_C x b cs D adK adV sb fm Y p s mi args meth c) (hck : z_ckE Y (pc, .newarray .long, np, tg) = true) (hn0 : s.heap.size = b + n0) (hr1 : zn m + 1 ≤ n0 + Rm.cells) (hr2 : zt m + N ≤ t0 + Rm.slots) (hn : ¬ n < 0) (hN : n.toNatClampNeg = N) (hle : N ≤ 65536) (kk : z_G b cs D (zX adK adV sb fm) Y p l e Rm s mi args below meth c n0 t0 Q np L (.ref (zn m) :: S) (sC m 15 N)) : z_G b cs D (zX adK adV sb fm) Y p l e Rm s mi args below meth c n0 t0 Q pc L (.int n :: S) m := by
  obtain ⟨o, len, hd, hh⟩ := z_ckd hck
  simp only [z_rel, Bool.and_eq_true, Bool.or_eq_true, beq_iff_eq, decide_eq_true_eq, Bool.not_eq_true'] at hh
  obtain ⟨rfl, rfl, rfl⟩ := hh
  intro H locs ls cells slots h1 h2 h3 h4 h5 h6
  have hby : N * componentBytes .long ≤ 536870912 := by
    have e : componentBytes .long ≤ 8 := by decide
    have e2 := Nat.mul_le_mul_left N e
    omega
  have hK0 : zK (sC m 15 N) (zn m) = 15 := z_1_eq
  have hN0 : zN (sC m 15 N) (zn m) = N := z_1_eq
  have hE : z_e b cs (sC m 15 N) (zn m) = .inl (cs 15, N, .inr (.inl (fun _ => 0))) := by rw [z_e_l hK0, hN0, show zJ (sC m 15 N) (zn m) = (fun _ => 0) from z_r_eq]
  have hac : Cond.arrayClass .long ∈ z_tb := z_in (by decide +kernel) rfl
  refine va_newa (atype := .long) (ty := .long) (a0 := (N, .inr (.inl (fun _ => 0)))) C.1 C.2.1 (C.2.2.2.2.1 _ hac) rfl C.2.2.2.2.2.1 h3 z_D h5 (fun q9 g9 => by show b ≤ q9; omega) (fun _ => rfl) hn hN hby (by omega) (by omega) hd (fun q9 cA H1 hK1 hP1 hD1 hS1 => ?_)
  have ec : cA = cs 15 := by
    have g1 : s.vm.findClass ("[" ++ (.long : FieldType).toString) = some cA := (hK1.2 8 (cA, .long) rfl).2
    have g2 : s.vm.findClass ("[" ++ (.long : FieldType).toString) = some (cs 15) := (C.2.2.2.2.2.1.2 3 (cs 15, .long) rfl).2
    exact Option.some.inj (g1.symm.trans g2)
  subst ec
  refine z_size fun hz => ?_
  have e9 : q9 = b + zn m := z_fresh (m := m) (cs := cs) rfl hP1 hD1 (by omega)
  subst e9
  refine kk H1 locs ls (cells + 1) (slots + N) (by show n0 + (cells + 1) = zn m + 1; omega) (by show t0 + (slots + N) = zt m + N; omega) ?_ (z_wf_new h4 (by omega) (fun h9 => absurd h9 (by decide))) hS1 h6
  rw [z_ws_push (m := m) (m' := sC m 15 N) rfl (fun q8 g8 => z_new_old g8), hE]
  exact hP1
set_option maxRecDepth 100000 in
theorem zs_newa_boolean {n : Int32} {N : Nat} (C : z_C x b cs D adK adV sb fm Y p s mi args meth c) (hck : z_ckE Y (pc, .newarray .boolean, np, tg) = true) (hn0 : s.heap.size = b + n0) (hr1 : zn m + 1 ≤ n0 + Rm.cells) (hr2 : zt m + N ≤ t0 + Rm.slots) (hn : ¬ n < 0) (hN : n.toNatClampNeg = N) (hle : N ≤ 65536) (kk : z_G b cs D (zX adK adV sb fm) Y p l e Rm s mi args below meth c n0 t0 Q np L (.ref (zn m) :: S) (sC m 16 N)) : z_G b cs D (zX adK adV sb fm) Y p l e Rm s mi args below meth c n0 t0 Q pc L (.int n :: S) m := by
  obtain ⟨o, len, hd, hh⟩ := z_ckd hck
  simp only [z_rel, Bool.and_eq_true, Bool.or_eq_true, beq_iff_eq, decide_eq_true_eq, Bool.not_eq_true'] at hh
  obtain ⟨rfl, rfl, rfl⟩ := hh
  intro H locs ls cells slots h1 h2 h3 h4 h5 h6
  have hby : N * componentBytes .boolean ≤ 536870912 := by
    have e : componentBytes .boolean ≤ 8 := by decide
    have e2 := Nat.mul_le_mul_left N e
    omega
  have hK0 : zK (sC m 16 N) (zn m) = 16 := z_1_eq
  have hN0 : zN (sC m 16 N) (zn m) = N := z_1_eq
  have hE : z_e b cs (sC m 16 N) (zn m) = .inl (cs 16, N, .inl (fun _ => 0)) := by rw [z_e_i hK0 (by decide) (by decide) (by decide), hN0, show zI (sC m 16 N) (zn m) = (fun _ => 0) from z_r_eq]
  have hac : Cond.arrayClass .boolean ∈ z_tb := z_in (by decide +kernel) rfl
  refine va_newa (atype := .boolean) (ty := .boolean) (a0 := (N, .inl (fun _ => 0))) C.1 C.2.1 (C.2.2.2.2.1 _ hac) rfl C.2.2.2.2.2.1 h3 z_D h5 (fun q9 g9 => by show b ≤ q9; omega) (fun _ => rfl) hn hN hby (by omega) (by omega) hd (fun q9 cA H1 hK1 hP1 hD1 hS1 => ?_)
  have ec : cA = cs 16 := by
    have g1 : s.vm.findClass ("[" ++ (.boolean : FieldType).toString) = some cA := (hK1.2 8 (cA, .boolean) rfl).2
    have g2 : s.vm.findClass ("[" ++ (.boolean : FieldType).toString) = some (cs 16) := (C.2.2.2.2.2.1.2 4 (cs 16, .boolean) rfl).2
    exact Option.some.inj (g1.symm.trans g2)
  subst ec
  refine z_size fun hz => ?_
  have e9 : q9 = b + zn m := z_fresh (m := m) (cs := cs) rfl hP1 hD1 (by omega)
  subst e9
  refine kk H1 locs ls (cells + 1) (slots + N) (by show n0 + (cells + 1) = zn m + 1; omega) (by show t0 + (slots + N) = zt m + N; omega) ?_ (z_wf_new h4 (by omega) (fun h9 => absurd h9 (by decide))) hS1 h6
  rw [z_ws_push (m := m) (m' := sC m 16 N) rfl (fun q8 g8 => z_new_old g8), hE]
  exact hP1
theorem zs_newq {n : Int32} {N kd : Nat} (C : z_C x b cs D adK adV sb fm Y p s mi args meth c) (hck : z_ckE Y (pc, .anewarray kd, np, tg) = true) (hn0 : s.heap.size = b + n0) (hr1 : zn m + 1 ≤ n0 + Rm.cells) (hr2 : zt m + N ≤ t0 + Rm.slots) (hn : ¬ n < 0) (hN : n.toNatClampNeg = N) (hle : N ≤ 65536) (g1 : 17 ≤ kd) (g2 : kd < 20) (kk : z_G b cs D (zX adK adV sb fm) Y p l e Rm s mi args below meth c n0 t0 Q np L (.ref (zn m) :: S) (sC m kd N)) : z_G b cs D (zX adK adV sb fm) Y p l e Rm s mi args below meth c n0 t0 Q pc L (.int n :: S) m := by
  obtain ⟨o, len, hd, hh⟩ := z_ckd hck
  simp only [z_rel, Bool.and_eq_true, Bool.or_eq_true, beq_iff_eq, decide_eq_true_eq, Bool.not_eq_true'] at hh
  obtain ⟨rfl, hh⟩ := hh
  intro H locs ls cells slots h1 h2 h3 h4 h5 h6
  split at hh
  · simp only [Bool.and_eq_true, beq_iff_eq, decide_eq_true_eq] at hh
    obtain ⟨rfl, hk⟩ := hh
    have hw := z_ck_ok _ hk
    obtain ⟨cl, e1, et, hcl⟩ := z_tyq g1 g2
    have en : z_cnE (100 + kd) = z_cn cl := by
      unfold z_cnE
      rw [if_neg (by omega), Nat.add_sub_cancel_left, e1]
      rfl
    simp only [en] at hw
    have hover : va_AO (z_cn cl) s := by
      have hx := C.2.2.2.2.2.2.1.2.2.2.2.2.2.2.2.1
      have h9 : kd = 17 ∨ kd = 18 ∨ kd = 19 := by omega
      rcases h9 with rfl | rfl | rfl
      · cases e1; exact hx.1
      · cases e1; exact hx.2.1
      · cases e1; exact hx.2.2
    have hK0 : zK (sC m kd N) (zn m) = kd := z_1_eq
    have hN0 : zN (sC m kd N) (zn m) = N := z_1_eq
    have hE : z_e b cs (sC m kd N) (zn m) = .inl (cs kd, N, .inr (.inr (.inr (.inr (fun _ => none))))) := by
      rw [z_e_q hK0 g1, hN0, show zR (sC m kd N) (zn m) = (fun _ => none) from z_r_eq]
      rfl
    refine va_newq (C := z_cn cl) C.1 C.2.1 C.2.2.2.1 (C.2.2.2.2.1 _ (z_in hw rfl)) hover C.2.2.2.2.2.1 h3 z_D h5 (fun q9 g9 => by show b ≤ q9; omega) hn hN (by omega) (by omega) (by omega) hd (fun q9 cA H1 hK1 hP1 hD1 hS1 => ?_)
    have ec : cA = cs kd := by
      obtain ⟨_, _, _, _, _, k1⟩ := (hK1.2 8 (cA, .object (z_cn cl)) rfl).2
      have h7 := (C.2.2.2.2.2.1.2 (kd - 12) _ (z_tys_at (by omega) g2)).2
      rw [et] at h7
      obtain ⟨_, _, _, _, _, k2⟩ := h7
      exact Option.some.inj (k1.symm.trans k2)
    subst ec
    refine z_size fun hz => ?_
    have e9 : q9 = b + zn m := z_fresh (m := m) (cs := cs) rfl hP1 hD1 (by omega)
    subst e9
    refine kk H1 locs ls (cells + 1) (slots + N) (by show n0 + (cells + 1) = zn m + 1; omega) (by show t0 + (slots + N) = zt m + N; omega) ?_ (z_wf_new h4 (by omega) (fun h9 => absurd h9 (by omega))) hS1 h6
    rw [z_ws_push (m := m) (m' := sC m kd N) rfl (fun q8 g8 => z_new_old g8), hE]
    exact hP1
  · cases hh
theorem z_mlS {ls : Array Slot} (C : z_C x b cs D adK adV sb fm Y p s mi args meth c) (h : z_lh b (zX adK adV sb fm) ls (z_mx Y) L) : c.maxLocals = ls.size := by rw [C.2.2.1]; exact h.2.1.symm
theorem z_arrI (C : z_C x b cs D adK adV sb fm Y p s mi args meth c) : s.vm.findClass "[I" = some (cs 14) := (C.2.2.2.2.2.1.2 2 (cs 14, .int) rfl).2
set_option maxRecDepth 100000 in
theorem zs_clone {q : Nat} (C : z_C x b cs D adK adV sb fm Y p s mi args meth c) (hck : z_ckE Y (pc, .monitorexit, np, tg) = true) (hrm : 1 ≤ Rm.frames ∧ 64 ≤ Rm.locals) (hn0 : s.heap.size = b + n0) (hr1 : zn m + 1 ≤ n0 + Rm.cells) (hr2 : zt m + zN m q ≤ t0 + Rm.slots) (hp : q < zn m) (hK : zK m q = 14) (hc : z_cat S + 14 ≤ 60) (kk : z_G b cs D (zX adK adV sb fm) Y p l e Rm s mi args below meth c n0 t0 Q np L (.ref (zn m) :: S) (sW (sC m 14 (zN m q)) (zn m) (zI m q))) : z_G b cs D (zX adK adV sb fm) Y p l e Rm s mi args below meth c n0 t0 Q pc L (.ref q :: S) m := by
  obtain ⟨o, len, hd, hh⟩ := z_ckd hck
  simp only [z_rel, Bool.and_eq_true, Bool.or_eq_true, beq_iff_eq, decide_eq_true_eq, Bool.not_eq_true'] at hh
  obtain ⟨rfl, hh⟩ := hh
  intro H locs ls cells slots h1 h2 h3 h4 h5 h6
  split at hh
  · simp only [Bool.and_eq_true, beq_iff_eq, decide_eq_true_eq] at hh
    obtain ⟨⟨rfl, ho⟩, rfl⟩ := hh
    have hcat := zv_cats (b := b) (z_Xc C) S
    refine va_clone (ad := "[I") (x := (zN m q, .inl (zI m q))) (ty := .int) C.1 C.2.1 (z_mlS C h6) C.2.2.2.1 (C.2.2.2.2.1 (.methodLink (z_own (z_on.getD Y 0)) 316 ⟨"[I", "clone", "()Ljava/lang/Object;"⟩) (by rw [ho]; exact z_in (by decide +kernel) rfl)) (C.2.2.2.2.1 _ (z_in (by decide +kernel) rfl)) (C.2.2.2.2.1 _ (z_in (by decide +kernel) rfl)) (C.2.2.2.2.1 _ (z_in (by decide +kernel) rfl)) (C.2.2.2.2.1 _ (z_in (by decide +kernel) rfl)) C.2.2.2.2.2.2.1.2.2.2.2.2.2.2.2.2.2 C.2.2.2.2.2.1 h3 z_D h5 (fun q9 g9 => by show b ≤ q9; omega) q 2 (by rw [z_ws_at hp, z_e_i hK (by decide) (by decide) (by decide)]) rfl (z_arrI C) (fun i9 v9 hv9 => ?_) hrm.1 (by rw [hcat]; omega) (by omega) (by show slots + zN m q ≤ Rm.slots; omega) hd (fun q9 H1 hK1 hP1 hD1 hS1 => ?_)
    · have hv9 : (arrV (cs 14) (zN m q) (fun j => .int (zI m q j))).slots[i9]? = some v9 := hv9
      by_cases h9 : i9 < zN m q
      · rw [arrV_read _ _ h9] at hv9
        cases hv9
        rfl
      · rw [Array.getElem?_eq_none (by rw [arrV_size]; omega)] at hv9
        cases hv9
    · refine z_size fun hz => ?_
      have e9 : q9 = b + zn m := z_fresh (m := m) (cs := cs) rfl hP1 hD1 (by omega)
      subst e9
      refine kk H1 locs ls (cells + 1) (slots + zN m q) (by show n0 + (cells + 1) = zn m + 1; omega) (by show t0 + (slots + zN m q) = zt m + zN m q; omega) ?_ (z_wf_new h4 (by omega) (fun h9 => absurd h9 (by decide))) hS1 h6
      have hK0 : zK (sW (sC m 14 (zN m q)) (zn m) (zI m q)) (zn m) = 14 := z_1_eq
      have hN0 : zN (sW (sC m 14 (zN m q)) (zn m) (zI m q)) (zn m) = zN m q := z_1_eq
      rw [z_ws_push (m := m) (m' := sW (sC m 14 (zN m q)) (zn m) (zI m q)) rfl (fun q8 g8 => (z_e_cong (m := sC m 14 (zN m q)) (m' := sW (sC m 14 (zN m q)) (zn m) (zI m q)) (z_r_ne (Nat.ne_of_lt g8)) rfl rfl rfl rfl).trans (z_new_old g8)), z_e_i hK0 (by decide) (by decide) (by decide), hN0, show zI (sW (sC m 14 (zN m q)) (zn m) (zI m q)) (zn m) = zI m q from z_r_eq]
      exact hP1
  · cases hh
set_option maxRecDepth 100000 in
theorem zs_castA {q o0 : Nat} (C : z_C x b cs D adK adV sb fm Y p s mi args meth c) (hck : z_ckE Y (pc, .checkcast o0, np, tg) = true) (hp : q < zn m) (hK : zK m q = 14) (kk : z_G b cs D (zX adK adV sb fm) Y p l e Rm s mi args below meth c n0 t0 Q np L (.ref q :: S) m) : z_G b cs D (zX adK adV sb fm) Y p l e Rm s mi args below meth c n0 t0 Q pc L (.ref q :: S) m := by
  obtain ⟨o, len, hd, hh⟩ := z_ckd hck
  simp only [z_rel, Bool.and_eq_true, Bool.or_eq_true, beq_iff_eq, decide_eq_true_eq, Bool.not_eq_true'] at hh
  obtain ⟨rfl, hh⟩ := hh
  intro H locs ls cells slots h1 h2 h3 h4 h5 h6
  split at hh
  · simp only [Bool.and_eq_true, beq_iff_eq, decide_eq_true_eq] at hh
    obtain ⟨⟨rfl, ho⟩, rfl⟩ := hh
    exact va_castA C.1 C.2.1 C.2.2.2.1 (C.2.2.2.2.1 (.classLink (z_own (z_on.getD Y 0)) 317 "[I") (by rw [ho]; exact z_in (by decide +kernel) rfl)) h3 q (by rw [z_ws_at hp, z_e_i hK (by decide) (by decide) (by decide)]) (z_arrI C) hd (kk H locs ls cells slots h1 h2 h3 h4 h5 h6)
  · cases hh
set_option maxRecDepth 100000 in
theorem zs_copy {q w : Nat} {sp dp n : Int32} (C : z_C x b cs D adK adV sb fm Y p s mi args meth c) (hck : z_ckE Y (pc, .swap, np, tg) = true) (hrm : 1 ≤ Rm.frames ∧ 64 ≤ Rm.locals) (hp : q < zn m) (hK : zK m q = 14) (hp2 : w < zn m) (hK2 : zK m w = 14) (g1 : ¬ sp < 0) (g2 : ¬ dp < 0) (g3 : ¬ n < 0) (g4 : sp.toNatClampNeg + n.toNatClampNeg ≤ zN m q) (g5 : dp.toNatClampNeg + n.toNatClampNeg ≤ zN m w) (hc : z_cat S ≤ 8) (kk : z_G b cs D (zX adK adV sb fm) Y p l e Rm s mi args below meth c n0 t0 Q np L S (sW m w (va_cpy (zI m q) (zI m w) sp.toNatClampNeg dp.toNatClampNeg n.toNatClampNeg))) : z_G b cs D (zX adK adV sb fm) Y p l e Rm s mi args below meth c n0 t0 Q pc L (.int n :: .int dp :: .ref w :: .int sp :: .ref q :: S) m := by
  obtain ⟨o, len, hd, hh⟩ := z_ckd hck
  simp only [z_rel, Bool.and_eq_true, Bool.or_eq_true, beq_iff_eq, decide_eq_true_eq, Bool.not_eq_true'] at hh
  obtain ⟨rfl, hh⟩ := hh
  intro H locs ls cells slots h1 h2 h3 h4 h5 h6
  split at hh
  · simp only [Bool.and_eq_true, beq_iff_eq, decide_eq_true_eq] at hh
    obtain ⟨⟨rfl, ho⟩, rfl⟩ := hh
    have hcat := zv_cats (b := b) (z_Xc C) S
    have hnf : nativeFrameWords "java/lang/System" "arraycopy" 5 + 11 ≤ 50 := by decide +kernel
    exact va_copyi C.1 C.2.1 (z_mlS C h6) C.2.2.2.1 (C.2.2.2.2.1 (.methodLink (z_own (z_on.getD Y 0)) 150 arraycopyName) (by rw [ho]; exact z_in (by decide +kernel) rfl)) (C.2.2.2.2.1 _ (z_in (by decide +kernel) rfl)) (C.2.2.2.2.1 _ (z_in (by decide +kernel) rfl)) (C.2.2.2.2.1 _ (z_in (by decide +kernel) rfl)) C.2.2.2.2.2.1 h3 z_D h5 q w 2 2 (by rw [z_ws_at hp, z_e_i hK (by decide) (by decide) (by decide)]) (by rw [z_ws_at hp2, z_e_i hK2 (by decide) (by decide) (by decide)]) rfl rfl rfl g1 g2 g3 g4 g5 (fun _ _ => rfl) hrm.1 (by rw [hcat]; omega) hd (fun H1 locs1 hP1 hD1 hS1 => kk H1 locs1 ls cells slots h1 h2 (by
      rw [z_ws_set (m := m) (m' := sW m w (va_cpy (zI m q) (zI m w) sp.toNatClampNeg dp.toNatClampNeg n.toNatClampNeg)) w rfl hp2 (fun j hj => z_e_cong (z_r_ne hj) rfl rfl rfl rfl), z_e_i (m := sW m w (va_cpy (zI m q) (zI m w) sp.toNatClampNeg dp.toNatClampNeg n.toNatClampNeg)) hK2 (by decide) (by decide) (by decide), show zI (sW m w (va_cpy (zI m q) (zI m w) sp.toNatClampNeg dp.toNatClampNeg n.toNatClampNeg)) w = va_cpy (zI m q) (zI m w) sp.toNatClampNeg dp.toNatClampNeg n.toNatClampNeg from z_r_eq]
      exact hP1) (fun p9 g1 => h4 p9 g1) hS1 h6)
  · cases hh
set_option maxRecDepth 100000 in
theorem z_oi_code : Cond.code objectInit ⟨#[0xb1]⟩ 1 none ∈ lw_tbl := List.mem_of_getElem? (i := 119) rfl
set_option maxRecDepth 100000 in
theorem z_mi_code : Cond.code Lib.Math.min.name Lib.Math.min.code 2 (some .int) ∈ lw_tbl := List.mem_of_getElem? (i := 692) rfl
set_option maxRecDepth 100000 in
theorem zs_objinit {q : Nat} (C : z_C x b cs D adK adV sb fm Y p s mi args meth c) (hck : z_ckE Y (pc, .monitorenter, np, tg) = true) (hrm : 1 ≤ Rm.frames ∧ 64 ≤ Rm.locals) (hc : z_cat S ≤ 8) (kk : z_G b cs D (zX adK adV sb fm) Y p l e Rm s mi args below meth c n0 t0 Q np L S m) : z_G b cs D (zX adK adV sb fm) Y p l e Rm s mi args below meth c n0 t0 Q pc L (.ref q :: S) m := by
  obtain ⟨o, len, hd, hh⟩ := z_ckd hck
  simp only [z_rel, Bool.and_eq_true, Bool.or_eq_true, beq_iff_eq, decide_eq_true_eq, Bool.not_eq_true'] at hh
  obtain ⟨rfl, hh⟩ := hh
  intro H locs ls cells slots h1 h2 h3 h4 h5 h6
  split at hh
  · simp only [Bool.and_eq_true, beq_iff_eq, decide_eq_true_eq] at hh
    obtain ⟨rfl, hk⟩ := hh
    have hcat := zv_cats (b := b) (z_Xc C) S
    exact W.objInit C.1 C.2.1 C.2.2.2.1 (C.2.2.2.2.1 _ (z_in (z_oi_ok _ hk) rfl)) (C.2.2.2.2.1 _ (z_in (by decide +kernel) rfl)) (C.2.2.2.2.1 _ (z_in z_oi_code rfl)) rfl (z_mlS C h6).symm rfl hd hrm.1 (by show 2 * 0 + _ + 12 ≤ _; rw [hcat]; omega) (kk H locs ls cells slots h1 h2 h3 h4 h5 h6)
  · cases hh
set_option maxRecDepth 100000 in
theorem zs_min {u v : Int32} (C : z_C x b cs D adK adV sb fm Y p s mi args meth c) (hck : z_ckE Y (pc, .fneg, np, tg) = true) (hrm : 1 ≤ Rm.frames ∧ 64 ≤ Rm.locals) (hr : zn m ≤ n0 + Rm.cells ∧ zt m ≤ t0 + Rm.slots) (hc : z_cat S ≤ 8) (kk : z_G b cs D (zX adK adV sb fm) Y p l e Rm s mi args below meth c n0 t0 Q np L (.int (if v < u then v else u) :: S) m) : z_G b cs D (zX adK adV sb fm) Y p l e Rm s mi args below meth c n0 t0 Q pc L (.int v :: .int u :: S) m := by
  obtain ⟨o, len, hd, hh⟩ := z_ckd hck
  simp only [z_rel, Bool.and_eq_true, Bool.or_eq_true, beq_iff_eq, decide_eq_true_eq, Bool.not_eq_true'] at hh
  obtain ⟨rfl, hh⟩ := hh
  intro H locs ls cells slots h1 h2 h3 h4 h5 h6
  split at hh
  · simp only [Bool.and_eq_true, beq_iff_eq, decide_eq_true_eq] at hh
    obtain ⟨rfl, hk⟩ := hh
    have hcat := zv_cats (b := b) (z_Xc C) S
    exact va_mmin C.1 C.2.1 (z_mlS C h6) C.2.2.2.1 (C.2.2.2.2.1 _ (z_in (z_mi_ok _ hk) rfl)) (C.2.2.2.2.1 _ (z_in (by decide +kernel) rfl)) (C.2.2.2.2.1 _ (z_in (by decide +kernel) rfl)) (C.2.2.2.2.1 _ (z_in z_mi_code rfl)) hrm.1 (by rw [hcat]; omega) (by omega) (by omega) hd (kk H locs ls cells slots h1 h2 h3 h4 h5 h6)
  · cases hh
end
