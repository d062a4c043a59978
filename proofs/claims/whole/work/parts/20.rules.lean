/-! RULES for walks by program: reads with a named value, calls with a known end. -/
def zRn (x : Nat × (Nat → Int32)) (d y : Nat) (as : List Value) (m : zM) (v : Option Value) (m' : zM) : Prop := zOk x d y 0 (z_l0 as (z_ml.getD y 0)) [] m (fun w n => w = v ∧ n = m')
theorem z_u_same {α : Type} (f : Nat → Nat → α) (p k : Nat) (v : α) : z_u f p k v p k = v := by simp [z_u]
theorem z_u_k {α : Type} (f : Nat → Nat → α) {p k j : Nat} (q : Nat) (v : α) (h : j ≠ k) : z_u f p k v q j = f q j := by simp [z_u, h]
theorem z_u_p {α : Type} (f : Nat → Nat → α) {p q : Nat} (k j : Nat) (v : α) (h : q ≠ p) : z_u f p k v q j = f q j := by simp [z_u, h]
section
variable {x : Nat × (Nat → Int32)} {d Y pc np tg : Nat} {L S : List Value} {m m' : zM} {Q : Option Value → zM → Prop} {I : Nat → Nat → Int32} {J : Nat → Nat → Int64} {R : Nat → Nat → Option Nat} {G : zG} {v : Option Value}
theorem k_gI {p c : Nat} {w : Int32} (hf : z_fetch Y pc = some (.getfield c, np, tg)) (hp : zo G p c) (hk : Nat.blt tg (z_fn c) = true) (hv : I p tg = w) (kk : zOk x d Y np L (.int w :: S) (I, J, R, G) Q) : zOk x d Y pc L (.ref p :: S) (I, J, R, G) Q := by
  subst hv
  exact k_getI hf hp hk kk
theorem k_ia {p n k : Nat} {i w : Int32} (hf : z_fetch Y pc = some (.iaload, np, tg)) (hp : za G p 14 n) (hk : nI k = i) (hb : k < n) (hn : n < 2 ^ 31) (hv : I p k = w) (kk : zOk x d Y np L (.int w :: S) (I, J, R, G) Q) : zOk x d Y pc L (.int i :: .ref p :: S) (I, J, R, G) Q := by
  subst hk; subst hv
  exact k_iald hf hp (vp_in_nI hb hn) (nI_clamp (by omega)) kk
theorem k_ca {p n k : Nat} {i w : Int32} (hf : z_fetch Y pc = some (.caload, np, tg)) (hp : za G p 13 n) (hk : nI k = i) (hb : k < n) (hn : n < 2 ^ 31) (hv : I p k = w) (kk : zOk x d Y np L (.int w :: S) (I, J, R, G) Q) : zOk x d Y pc L (.int i :: .ref p :: S) (I, J, R, G) Q := by
  subst hk; subst hv
  exact k_cald hf hp (vp_in_nI hb hn) (nI_clamp (by omega)) kk
theorem k_ba {p n k : Nat} {i w : Int32} (hf : z_fetch Y pc = some (.baload, np, tg)) (hp : za G p 12 n) (hk : nI k = i) (hb : k < n) (hn : n < 2 ^ 31) (hv : I p k = w) (kk : zOk x d Y np L (.int w :: S) (I, J, R, G) Q) : zOk x d Y pc L (.int i :: .ref p :: S) (I, J, R, G) Q := by
  subst hk; subst hv
  exact k_bald hf hp (vp_in_nI hb hn) (nI_clamp (by omega)) kk
theorem k_za {p n k : Nat} {i w : Int32} (hf : z_fetch Y pc = some (.baload, np, tg)) (hp : za G p 16 n) (hk : nI k = i) (hb : k < n) (hn : n < 2 ^ 31) (hv : I p k = w) (kk : zOk x d Y np L (.int w :: S) (I, J, R, G) Q) : zOk x d Y pc L (.int i :: .ref p :: S) (I, J, R, G) Q := by
  subst hk; subst hv
  exact k_zald hf hp (vp_in_nI hb hn) (nI_clamp (by omega)) kk
theorem k_la {p n k : Nat} {i : Int32} {w : Int64} (hf : z_fetch Y pc = some (.laload, np, tg)) (hp : za G p 15 n) (hk : nI k = i) (hb : k < n) (hn : n < 2 ^ 31) (hv : J p k = w) (kk : zOk x d Y np L (.long w :: S) (I, J, R, G) Q) : zOk x d Y pc L (.int i :: .ref p :: S) (I, J, R, G) Q := by
  subst hk; subst hv
  exact k_lald hf hp (vp_in_nI hb hn) (nI_clamp (by omega)) kk
theorem k_aar {p n k kd q : Nat} {i : Int32} (hf : z_fetch Y pc = some (.aaload, np, tg)) (hp : za G p kd n) (hkd : Nat.ble 17 kd && Nat.blt kd 20) (hk : nI k = i) (hb : k < n) (hn : n < 2 ^ 31) (hv : R p k = some q) (kk : zOk x d Y np L (.ref q :: S) (I, J, R, G) Q) : zOk x d Y pc L (.int i :: .ref p :: S) (I, J, R, G) Q := by
  subst hk
  exact k_aald hf hp hkd (vp_in_nI hb hn) (nI_clamp (by omega)) hv kk
theorem k_aan {p n k kd : Nat} {i : Int32} (hf : z_fetch Y pc = some (.aaload, np, tg)) (hp : za G p kd n) (hkd : Nat.ble 17 kd && Nat.blt kd 20) (hk : nI k = i) (hb : k < n) (hn : n < 2 ^ 31) (hv : R p k = none) (kk : zOk x d Y np L (.null :: S) (I, J, R, G) Q) : zOk x d Y pc L (.int i :: .ref p :: S) (I, J, R, G) Q := by
  subst hk
  exact k_aald hf hp hkd (vp_in_nI hb hn) (nI_clamp (by omega)) hv kk
theorem k_is {p n k : Nat} {i w : Int32} (hf : z_fetch Y pc = some (.iastore, np, tg)) (hp : za G p 14 n) (hk : nI k = i) (hb : k < n) (hn : n < 2 ^ 31) (kk : zOk x d Y np L S (z_u I p k w, J, R, G) Q) : zOk x d Y pc L (.int w :: .int i :: .ref p :: S) (I, J, R, G) Q := by
  subst hk
  exact k_iast hf hp (vp_in_nI hb hn) (nI_clamp (by omega)) kk
theorem k_ls {p n k : Nat} {i : Int32} {w : Int64} (hf : z_fetch Y pc = some (.lastore, np, tg)) (hp : za G p 15 n) (hk : nI k = i) (hb : k < n) (hn : n < 2 ^ 31) (kk : zOk x d Y np L S (I, z_u J p k w, R, G) Q) : zOk x d Y pc L (.long w :: .int i :: .ref p :: S) (I, J, R, G) Q := by
  subst hk
  exact k_last hf hp (vp_in_nI hb hn) (nI_clamp (by omega)) kk
theorem k_ist {k : Nat} {w : Int32} (L' : List Value) (hf : z_fetch Y pc = some (.istore k, np, tg)) (hL : Nat.blt k L.length = true) (he : z_s1 L k (.int w) = L') (kk : zOk x d Y np L' S m Q) : zOk x d Y pc L (.int w :: S) m Q := k_istore hf hL he kk
theorem e_s {y : Nat} {as rest : List Value} (hf : z_fetch Y pc = some (.invokestatic y, np, tg)) (hn : z_na.getD y 0 = as.length) (hc : Nat.ble (z_cat rest) 8 = true) (hm : Nat.ble (z_cat as) (z_ml.getD y 0) = true) (hy : zRn x d y as.reverse m v m') (kk : zOk x (d + 1) Y np L (v.toList ++ rest) m' Q) : zOk x (d + 1) Y pc L (as ++ rest) m Q := by
  refine k_calls hf hn hc hm rfl hy ?_
  rintro w n ⟨rfl, rfl⟩
  exact kk
theorem e_i {y p : Nat} {as rest : List Value} (hf : z_fetch Y pc = some (.invokespecial y, np, tg)) (hn : z_na.getD y 0 = as.length + 1) (hc : Nat.ble (z_cat rest) 8 = true) (hm : Nat.ble (z_cat (as ++ [.ref p])) (z_ml.getD y 0) = true) (hy : zRn x d y (.ref p :: as.reverse) m v m') (kk : zOk x (d + 1) Y np L (v.toList ++ rest) m' Q) : zOk x (d + 1) Y pc L (as ++ .ref p :: rest) m Q := by
  refine k_calli hf hn hc hm rfl hy ?_
  rintro w n ⟨rfl, rfl⟩
  exact kk
theorem e_v {y p : Nat} {as rest : List Value} (hf : z_fetch Y pc = some (.invokevirtual y, np, tg)) (hp : zo G p (z_oc.getD y 99)) (hn : z_na.getD y 0 = as.length + 1) (hc : Nat.ble (z_cat rest) 8 = true) (hm : Nat.ble (z_cat (as ++ [.ref p])) (z_ml.getD y 0) = true) (hy : zRn x d y (.ref p :: as.reverse) (I, J, R, G) v m') (kk : zOk x (d + 1) Y np L (v.toList ++ rest) m' Q) : zOk x (d + 1) Y pc L (as ++ .ref p :: rest) (I, J, R, G) Q := by
  refine k_callv hf hp hn hc hm rfl hy ?_
  rintro w n ⟨rfl, rfl⟩
  exact kk
theorem e_x {y p : Nat} {as rest : List Value} (hf : z_fetch Y pc = some (.invokevirtual y, np, tg)) (hp : p < 6) (ho : z_oc.getD y 99 = 50) (hn : z_na.getD y 0 = as.length + 1) (hc : Nat.ble (z_cat rest) 8 = true) (hm : Nat.ble (z_cat (as ++ [.retAddr p])) (z_ml.getD y 0) = true) (hy : zRn x d y (.retAddr p :: as.reverse) m v m') (kk : zOk x (d + 1) Y np L (v.toList ++ rest) m' Q) : zOk x (d + 1) Y pc L (as ++ .retAddr p :: rest) m Q := by
  refine k_callx hf hp ho hn hc hm rfl hy ?_
  rintro w n ⟨rfl, rfl⟩
  exact kk
/-- a deeper machine answers the same -/
theorem z_deep {n : Nat} : ∀ {d Y pc : Nat} {L S : List Value} {m : zM} {r : Option Value × zM}, z_ex x n d Y pc L S m = some r → ∀ k, d ≤ k → z_ex x n k Y pc L S m = some r := by
  induction n with
  | zero => intro d Y pc L S m r h; simp [z_ex] at h
  | succ n ih =>
    intro d Y pc L S m r h k hk
    cases hf : z_fetch Y pc with
    | none => simp [z_ex, hf] at h
    | some q =>
      obtain ⟨i, np, tg⟩ := q
      cases hs : z_st x i np tg L S m with
      | none => simp [z_ex, hf, hs] at h
      | some o =>
        cases o with
        | inl q =>
          obtain ⟨pc', L', S', m'⟩ := q
          simp only [z_ex, hf, hs] at h ⊢
          exact ih h k hk
        | inr o =>
          cases o with
          | inl v =>
            simp only [z_ex, hf, hs] at h ⊢
            exact h
          | inr q =>
            obtain ⟨y, as, rest⟩ := q
            cases d with
            | zero => simp [z_ex, hf, hs] at h
            | succ d' =>
              obtain ⟨k', rfl⟩ : ∃ k', k = k' + 1 := ⟨k - 1, by omega⟩
              simp only [z_ex, hf, hs] at h ⊢
              cases hc : z_ex x n d' y 0 (z_l0 as (z_ml.getD y 0)) [] m with
              | none => simp only [hc] at h; cases h
              | some w =>
                obtain ⟨v, m'⟩ := w
                simp only [hc] at h
                simp only [ih hc k' (by omega)]
                exact ih h (k' + 1) hk
theorem zOk.deep {d' : Nat} (h : zOk x d Y pc L S m Q) (hd : d ≤ d') : zOk x d' Y pc L S m Q := by
  obtain ⟨n, v, m', h1, h2⟩ := h
  exact ⟨n, v, m', z_deep h1 d' hd, h2⟩
theorem zRn.deep {d' y : Nat} {as : List Value} (h : zRn x d y as m v m') (hd : d ≤ d') : zRn x d' y as m v m' := zOk.deep h hd
end
