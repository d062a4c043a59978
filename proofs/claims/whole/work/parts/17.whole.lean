/-! THE MAIN THEOREM -/
theorem z_main {x : Nat × (Nat → Int32)} : ∀ n, z_P x n := by
  intro n
  induction n with
  | zero => intro d Y pc L S m r m' h; simp [z_ex] at h
  | succ n ih =>
    intro d Y pc L S m r m' h b cs D adK adV sb fm p l e Rm s mi args below meth c n0 t0 Q C hf hl hn hr1 hr2 fin
    cases hfe : z_fetch Y pc with
    | none => simp [z_ex, hfe] at h
    | some q =>
      obtain ⟨i, np, tg⟩ := q
      have hck := z_ck_all hfe
      cases hs : z_st x i np tg L S m with
      | none => simp [z_ex, hfe, hs] at h
      | some o =>
        cases o with
        | inl q =>
          obtain ⟨pc1, L1, S1, m1⟩ := q
          simp only [z_ex, hfe, hs] at h
          have hm := z_exmono _ _ _ _ _ _ _ _ _ h
          exact z_step C ⟨by omega, by omega⟩ hn hck hs ⟨by omega, by omega⟩ (ih d Y pc1 L1 S1 m1 r m' h b cs D adK adV sb fm p l e Rm s mi args below meth c n0 t0 Q C hf hl hn hr1 hr2 fin)
        | inr o =>
          cases o with
          | inl v =>
            simp only [z_ex, hfe, hs] at h
            cases h
            exact z_ret hck hs fin
          | inr q =>
            obtain ⟨y, as, rest⟩ := q
            cases d with
            | zero => simp [z_ex, hfe, hs] at h
            | succ d' =>
              simp only [z_ex, hfe, hs] at h
              cases hc : z_ex x n d' y 0 (z_l0 as (z_ml.getD y 0)) [] m with
              | none => simp only [hc] at h; cases h
              | some w =>
                obtain ⟨v, m1⟩ := w
                simp only [hc] at h
                have hm := z_exmono _ _ _ _ _ _ _ _ _ h
                exact z_call C ih hck hs hc (by omega) (by omega) hn ⟨by omega, by omega⟩ (ih (d' + 1) Y np L (v.toList ++ rest) m1 r m' h b cs D adK adV sb fm p l e Rm s mi args below meth c n0 t0 Q C hf hl hn hr1 hr2 fin)
