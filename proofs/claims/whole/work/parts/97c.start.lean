/-! THE LAW'S FIRST ROWS: both objects made. -/
theorem p_start {L : Nat} {xs : Nat → Int32} {Q : Option Value → zM → Prop} (hk : zOk (L, xs) 400 215 18 [.retAddr 30, .ref 0, .ref 51, .int 0] [] im2 Q) : zOk (L, xs) 400 215 0 [.retAddr 30, zU, zU, zU] [] z_m0 Q := by
  have e1 : im1.2.2.2.2.2.1 = 51 := i_1.2.1
  have e2 : im1.2.2.2.2.2.2 = 1573 := i_1.2.2
  refine k_new (I := fun _ _ => 0) (J := fun _ _ => 0) (R := fun _ _ => none) (G := (fun _ => 0, fun _ => 0, 0, 0)) (c := 10) f215_0 rfl (by decide) ?_
  refine k_dup (a := 0) f215_3 ?_
  refine e_i (p := 0) (as := []) (rest := [.ref 0]) f215_4 rfl rfl rfl (zRn.deep (i_run1 (L, xs)) (by decide)) ?_
  refine k_astore (L' := [.retAddr 30, .ref 0, zU, zU]) f215_7 rfl rfl ?_
  refine k_new (I := im1.1) (J := im1.2.1) (R := im1.2.2.1) (G := im1.2.2.2) (c := 11) f215_8 rfl (by rw [e1, e2]; decide) ?_
  rw [e1]
  refine k_dup (a := 51) f215_11 ?_
  have hm : sC im1 11 39 = (z_r im1.1 51 (fun _ => 0), z_r im1.2.1 51 (fun _ => 0), z_r im1.2.2.1 51 (fun _ => none), zGn im1.2.2.2 11 (z_fn 11)) := by
    rw [← e1]
    rfl
  rw [← hm]
  refine e_i (p := 51) (as := []) (rest := [.ref 51]) f215_12 rfl rfl rfl (zRn.deep (i_run2 (L, xs)) (by decide)) ?_
  refine k_astore (L' := [.retAddr 30, .ref 0, .ref 51, zU]) f215_15 rfl rfl ?_
  refine k_iconst (v := 0) f215_16 rfl ?_
  refine k_istore (L' := [.retAddr 30, .ref 0, .ref 51, .int 0]) f215_17 rfl rfl ?_
  exact hk
