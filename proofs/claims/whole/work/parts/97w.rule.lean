/-! A RULE means the same on both sides. -/
def soP (I : Nat → Nat → Int32) (t : Nat) (w : Nat → Int64) (kd i : Nat) : Bool := decide (I 55 (36 * t + 3 * i) = nI kd) && (match ruD w (fun j => I 53 (400 * t + j)) (cl (I 55 (36 * t + 3 * i + 1))) (cl (I 55 (36 * t + 3 * i + 2)) - cl (I 55 (36 * t + 3 * i + 1))) (fun _ => 0, 0) with
  | some q => decide (q.1 (q.2 - 1) = 1)
  | none => false)
def soB (I : Nat → Nat → Int32) (t : Nat) (w : Nat → Int64) (kd : Nat) : Bool := smB (soP I t w kd) 0 (cl (I 56 t))
theorem soP_c {I : Nat → Nat → Int32} {t kd i kd' f u f1 t1 : Nat} {w : Nat → Int64} {cc : Nat → Int32} (h1 : I 55 (36 * t + 3 * i) = nI kd') (h2 : I 55 (36 * t + 3 * i + 1) = nI f) (h3 : I 55 (36 * t + 3 * i + 2) = nI u) (hk : kd < 3) (hk' : kd' < 3) (hf : f ≤ u) (hu : u ≤ 400) (hC : ClE cc f1 t1 (fun j => I 53 (400 * t + j)) f u) (s1 : Nat → Int64) : soP I t w kd i = true ↔ kd' = kd ∧ clsT (ruC w cc f1 (t1 - f1) (s1, 0)) := by
  obtain ⟨q, e1, e2, e3, e4⟩ := hC w s1 (fun _ => 0)
  unfold soP
  rw [h2, h3, cl_nI (by omega), cl_nI (by omega), e1, h1]
  simp only [Bool.and_eq_true, decide_eq_true_eq]
  rw [nI_eq (by omega) (by omega), e4]
theorem soP_d {I : Nat → Nat → Int32} {t kd i kd' f u f1 t1 : Nat} {w : Nat → Int64} {cc : Nat → Int32} (h1 : I 55 (36 * t + 3 * i) = nI kd') (h2 : I 55 (36 * t + 3 * i + 1) = nI f) (h3 : I 55 (36 * t + 3 * i + 2) = nI u) (hk : kd < 3) (hk' : kd' < 3) (hf : f ≤ u) (hu : u ≤ 400) (hC : ClE cc f1 t1 (fun j => I 53 (400 * t + j)) f u) (s2 : Nat → Int64) : ∃ q, ruD w (fun j => I 53 (400 * t + j)) f (u - f) (s2, 0) = some q ∧ 0 < q.2 ∧ q.2 ≤ 64 ∧ (soP I t w kd i = true ↔ I 55 (36 * t + 3 * i) = nI kd ∧ q.1 (q.2 - 1) = 1) := by
  obtain ⟨q, e1, e2, e3, e4⟩ := hC w (fun _ => 0) s2
  refine ⟨q, e1, e2, e3, ?_⟩
  rw [soP_c h1 h2 h3 hk hk' hf hu hC (fun _ => 0), e4, h1, nI_eq (by omega) (by omega)]
theorem s_some {x : Nat × (Nat → Int32)} {d : Nat} {I : Nat → Nat → Int32} {J : Nat → Nat → Int64} {R : Nat → Nat → Option Nat} {G : zG} {t r kd : Nat} {w : Nat → Int64} (hR : Rs R) (hS : Sh G) (hru : RuR I R G t r) (hkd : kd < 3) (hw : ∀ j, 1 ≤ j → j ≤ 9 → J 40 j = w (j - 1)) : zOk x (d + 2) 22 0 [.ref r, .int (nI (kd + 1)), .ref 39, zU, zU] [] (I, J, R, G) (fun v mm => v = some (.int (bI (soB I t w kd = true))) ∧ ∃ J', mm = (I, J', R, G) ∧ ∀ p, p ≠ 41 → J' p = J p) := by
  obtain ⟨a, b, c, n, k, hs, hk, e, e0, he⟩ := hru
  have hk12 : k ≤ 12 := hs.2.2.2.2.2.2.2.2.2.2.2.2
  have ek : cl (I 56 t) = k := by rw [hk, cl_nI (by omega)]
  unfold soB
  rw [ek]
  refine k_iconst (v := 0) f22_0 rfl ?_
  refine k_istore (L' := [.ref r, .int (nI (kd + 1)), .ref 39, .int (0), zU]) f22_1 rfl rfl ?_
  refine k_iconst (v := 0) f22_2 rfl ?_
  refine k_istore (L' := [.ref r, .int (nI (kd + 1)), .ref 39, .int (0), .int (0)]) f22_3 rfl rfl ?_
  have h := lp_some (x := x) (d := d) (w := w) (kind := nI (kd + 1)) (e := e) (P := soP I t w kd) hR hS hs (fun i hi => ⟨(he i hi).1, (he i hi).2.1, (he i hi).2.2.1⟩) (fun i hi s1 => ?_) k 0 J (by omega) hw
  · rw [e0] at h
    exact h
  · obtain ⟨x1, x2, x3, kd', f, u, y1, y2, y3, y4, y5, y6, y7, y8⟩ := he i hi
    rw [soP_c y5 y6 y7 hkd y1 y2 y3 y8 s1, y4, nI_eq (by omega) (by omega)]
    exact and_congr_left fun _ => by omega
theorem s_isSo {x : Nat × (Nat → Int32)} {d : Nat} {I : Nat → Nat → Int32} {J : Nat → Nat → Int64} {R : Nat → Nat → Option Nat} {G : zG} {t r kd : Nat} {w : Nat → Int64} (hR : Rs R) (hS : Sh G) (ht6 : t < 6) (hru : RuR I R G t r) (hkd : kd < 3) (hw : ∀ j, j < 9 → J 61 j = w j) : zOk x (d + 2) 166 0 [.ref 51, .int (nI t), .int (nI kd), zU, zU] [] (I, J, R, G) (fun v mm => v = some (.int (bI (soB I t w kd = true))) ∧ ∃ I' J', mm = (I', J', R, G) ∧ (∀ p k, ¬ (p = 51 ∧ k = 23) → I' p k = I p k) ∧ ∀ p, p ≠ 60 → J' p = J p) := by
  obtain ⟨a, b, c, n, k, hs, hk, e, e0, he⟩ := hru
  have hk12 : k ≤ 12 := hs.2.2.2.2.2.2.2.2.2.2.2.2
  have ek : cl (I 56 t) = k := by rw [hk, cl_nI (by omega)]
  unfold soB
  rw [ek]
  refine k_iconst (v := 0) f166_0 rfl ?_
  refine k_istore (L' := [.ref 51, .int (nI t), .int (nI kd), .int (0), zU]) f166_1 rfl rfl ?_
  refine lp_isSo (I0 := I) (w := w) (kind := nI kd) (f := fun i => cl (I 55 (36 * t + 3 * i + 1))) (u := fun i => cl (I 55 (36 * t + 3 * i + 2))) (P := soP I t w kd) hR hS ht6 hk hk12 (fun i hi => ?_) (fun i hi s2 => ?_) k 0 I J _ (by omega) (fun _ _ _ => rfl) hw
  · obtain ⟨x1, x2, x3, kd', f, u, y1, y2, y3, y4, y5, y6, y7, y8⟩ := he i hi
    simp only [y6, y7]
    rw [cl_nI (by omega), cl_nI (by omega)]
    exact ⟨y2, y3, rfl, rfl⟩
  · obtain ⟨x1, x2, x3, kd', f, u, y1, y2, y3, y4, y5, y6, y7, y8⟩ := he i hi
    have h := soP_d (w := w) y5 y6 y7 hkd y1 y2 y3 y8 s2
    simp only [y6, y7]
    rw [cl_nI (by omega), cl_nI (by omega)]
    exact h
