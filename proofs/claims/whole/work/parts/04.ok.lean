/-! RUNS of the small machine: 'zOk x d Y pc L S m Q': from here method Y comes to its end with Q. A rule an instruction. -/
theorem z_mono {x : Nat × (Nat → Int32)} : ∀ (n d Y pc : Nat) (L S : List Value) (m : zM) (r : Option Value × zM), z_ex x n d Y pc L S m = some r → ∀ k, n ≤ k → z_ex x k d Y pc L S m = some r := by
  intro n
  induction n with
  | zero => intro d Y pc L S m r h; simp [z_ex] at h
  | succ n ih =>
    intro d Y pc L S m r h k hk
    obtain ⟨k, rfl⟩ : ∃ j, k = j + 1 := ⟨k - 1, by omega⟩
    have hk : n ≤ k := by omega
    cases hf : z_fetch Y pc with
    | none => simp [z_ex, hf] at h
    | some q =>
      obtain ⟨i, np, tg⟩ := q
      cases hs : z_st x i np tg L S m with
      | none => simp [z_ex, hf, hs] at h
      | some o =>
        cases o with
        | inl q =>
          obtain ⟨pc', L', S', m'⟩ := q
          simp only [z_ex, hf, hs] at h ⊢
          exact ih _ _ _ _ _ _ _ h k hk
        | inr o =>
          cases o with
          | inl v =>
            simp only [z_ex, hf, hs] at h ⊢
            exact h
          | inr q =>
            obtain ⟨y, as, rest⟩ := q
            cases d with
            | zero => simp [z_ex, hf, hs] at h
            | succ d' =>
              simp only [z_ex, hf, hs] at h ⊢
              cases hc : z_ex x n d' y 0 (z_l0 as (z_ml.getD y 0)) [] m with
              | none => simp only [hc] at h; cases h
              | some w =>
                obtain ⟨v, m'⟩ := w
                simp only [hc] at h
                simp only [ih _ _ _ _ _ _ _ hc k hk]
                exact ih _ _ _ _ _ _ _ h k hk
def zOk (x : Nat × (Nat → Int32)) (d Y pc : Nat) (L S : List Value) (m : zM) (Q : Option Value → zM → Prop) : Prop := ∃ (n : Nat) (v : Option Value) (m' : zM), z_ex x n d Y pc L S m = some (v, m') ∧ Q v m'
section
variable {x : Nat × (Nat → Int32)} {d Y pc np tg : Nat} {L S : List Value} {m : zM} {Q : Option Value → zM → Prop} {i : Instr}
theorem zk_st {pc' : Nat} {L' S' : List Value} {m' : zM} (hf : z_fetch Y pc = some (i, np, tg)) (hs : z_st x i np tg L S m = some (.inl (pc', L', S', m'))) (kk : zOk x d Y pc' L' S' m' Q) : zOk x d Y pc L S m Q := by
  obtain ⟨n, v, m2, h, q⟩ := kk
  exact ⟨n + 1, v, m2, by rw [z_ex, hf]; simp only [hs]; exact h, q⟩
theorem zk_ret {v : Option Value} (hf : z_fetch Y pc = some (i, np, tg)) (hs : z_st x i np tg L S m = some (.inr (.inl v))) (q : Q v m) : zOk x d Y pc L S m Q :=
  ⟨1, v, m, by rw [z_ex, hf]; simp only [hs], q⟩
theorem zk_call {y : Nat} {as rest : List Value} {Q' : Option Value → zM → Prop} (hf : z_fetch Y pc = some (i, np, tg)) (hs : z_st x i np tg L S m = some (.inr (.inr (y, as, rest)))) (hc : zOk x d y 0 (z_l0 as (z_ml.getD y 0)) [] m Q')
    (kk : ∀ v m', Q' v m' → zOk x (d + 1) Y np L (v.toList ++ rest) m' Q) : zOk x (d + 1) Y pc L S m Q := by
  obtain ⟨n, v, m1, h, q⟩ := hc
  obtain ⟨n2, v2, m2, h2, q2⟩ := kk v m1 q
  refine ⟨max n n2 + 1, v2, m2, ?_, q2⟩
  rw [z_ex, hf]
  simp only [hs]
  rw [z_mono _ _ _ _ _ _ _ _ h _ (Nat.le_max_left n n2)]
  exact z_mono _ _ _ _ _ _ _ _ h2 _ (Nat.le_max_right n n2)
theorem zOk.imp {Q2 : Option Value → zM → Prop} (h : zOk x d Y pc L S m Q) (hi : ∀ v m', Q v m' → Q2 v m') : zOk x d Y pc L S m Q2 := by
  obtain ⟨n, v, m', e, q⟩ := h
  exact ⟨n, v, m', e, hi v m' q⟩
end
abbrev zG : Type := (Nat → Nat) × (Nat → Nat) × Nat × Nat
/-- an object of a class; an array of a kind and a length -/
def zo (G : zG) (p c : Nat) : Prop := p < G.2.2.1 ∧ G.1 p = c ∧ G.2.1 p = z_fn c
def za (G : zG) (p kd n : Nat) : Prop := p < G.2.2.1 ∧ G.1 p = kd ∧ G.2.1 p = n
section
variable {x : Nat × (Nat → Int32)} {d Y pc np tg : Nat} {L S : List Value} {m : zM} {Q : Option Value → zM → Prop} {I : Nat → Nat → Int32} {J : Nat → Nat → Int64} {R : Nat → Nat → Option Nat} {G : zG}
theorem k_iconst {n : Int} {v : Int32} (hf : z_fetch Y pc = some (.iconst n, np, tg)) (hv : Int32.ofInt n = v) (kk : zOk x d Y np L (.int v :: S) (m) Q) : zOk x d Y pc L (S) (m) Q := by
  refine zk_st hf ?_ kk
  simp [z_st, hv]
theorem k_lconst {n : Int} {v : Int64} (hf : z_fetch Y pc = some (.goto_w n, np, tg)) (hv : Int64.ofInt n = v) (kk : zOk x d Y np L (.long v :: S) (m) Q) : zOk x d Y pc L (S) (m) Q := by
  refine zk_st hf ?_ kk
  simp [z_st, hv]
theorem k_ldc {k : Nat} (hf : z_fetch Y pc = some (.ldc k, np, tg))  (kk : zOk x d Y np L (.retAddr k :: S) (m) Q) : zOk x d Y pc L (S) (m) Q := by
  refine zk_st hf ?_ kk
  simp [z_st]
theorem k_gs0  (hf : z_fetch Y pc = some (.getstatic 0, np, tg))  (kk : zOk x d Y np L (.int 1 :: S) (m) Q) : zOk x d Y pc L (S) (m) Q := by
  refine zk_st hf ?_ kk
  simp [z_st]
theorem k_gs1  (hf : z_fetch Y pc = some (.getstatic 1, np, tg))  (kk : zOk x d Y np L (.retAddr 20 :: S) (m) Q) : zOk x d Y pc L (S) (m) Q := by
  refine zk_st hf ?_ kk
  simp [z_st]
theorem k_null  (hf : z_fetch Y pc = some (.aconst_null, np, tg))  (kk : zOk x d Y np L (.null :: S) (m) Q) : zOk x d Y pc L (S) (m) Q := by
  refine zk_st hf ?_ kk
  simp [z_st]
theorem k_iload {k : Nat} {v : Int32} (hf : z_fetch Y pc = some (.iload k, np, tg)) (hl : z_at L k = .int v) (kk : zOk x d Y np L (.int v :: S) (m) Q) : zOk x d Y pc L (S) (m) Q := by
  refine zk_st hf ?_ kk
  simp [z_st, hl]
theorem k_lload {k : Nat} {v : Int64} (hf : z_fetch Y pc = some (.lload k, np, tg)) (hl : z_at L k = .long v) (kk : zOk x d Y np L (.long v :: S) (m) Q) : zOk x d Y pc L (S) (m) Q := by
  refine zk_st hf ?_ kk
  simp [z_st, hl]
theorem k_aload {k v : Nat} (hf : z_fetch Y pc = some (.aload k, np, tg)) (hl : z_at L k = .ref v) (kk : zOk x d Y np L (.ref v :: S) (m) Q) : zOk x d Y pc L (S) (m) Q := by
  refine zk_st hf ?_ kk
  simp [z_st, hl]
theorem k_aloadn {k : Nat} (hf : z_fetch Y pc = some (.aload k, np, tg)) (hl : z_at L k = .null) (kk : zOk x d Y np L (.null :: S) (m) Q) : zOk x d Y pc L (S) (m) Q := by
  refine zk_st hf ?_ kk
  simp [z_st, hl]
theorem k_aloadx {k v : Nat} (hf : z_fetch Y pc = some (.aload k, np, tg)) (hl : z_at L k = .retAddr v) (hv : ¬ v = 20) (kk : zOk x d Y np L (.retAddr v :: S) (m) Q) : zOk x d Y pc L (S) (m) Q := by
  refine zk_st hf ?_ kk
  simp [z_st, hl, hv]
theorem k_istore {k : Nat} {v : Int32} {L' : List Value} (hf : z_fetch Y pc = some (.istore k, np, tg)) (hL : Nat.blt (k) L.length = true) (he : z_s1 L k (.int v) = L') (kk : zOk x d Y np L' S m Q) : zOk x d Y pc L (.int v :: S) m Q := by
  refine zk_st hf ?_ kk
  have hL : k < L.length := Nat.blt_eq.mp hL
  simp [z_st, hL, he]
theorem k_lstore {k : Nat} {v : Int64} {L' : List Value} (hf : z_fetch Y pc = some (.lstore k, np, tg)) (hL : Nat.blt (k + 1) L.length = true) (he : z_s2 L k (.long v) = L') (kk : zOk x d Y np L' S m Q) : zOk x d Y pc L (.long v :: S) m Q := by
  refine zk_st hf ?_ kk
  have hL : k + 1 < L.length := Nat.blt_eq.mp hL
  simp [z_st, hL, he]
theorem k_astore {k v : Nat} {L' : List Value} (hf : z_fetch Y pc = some (.astore k, np, tg)) (hL : Nat.blt (k) L.length = true) (he : z_s1 L k (.ref v) = L') (kk : zOk x d Y np L' S m Q) : zOk x d Y pc L (.ref v :: S) m Q := by
  refine zk_st hf ?_ kk
  have hL : k < L.length := Nat.blt_eq.mp hL
  simp [z_st, hL, he]
theorem k_astoren {k : Nat} {L' : List Value} (hf : z_fetch Y pc = some (.astore k, np, tg)) (hL : Nat.blt (k) L.length = true) (he : z_s1 L k (.null) = L') (kk : zOk x d Y np L' S m Q) : zOk x d Y pc L (.null :: S) m Q := by
  refine zk_st hf ?_ kk
  have hL : k < L.length := Nat.blt_eq.mp hL
  simp [z_st, hL, he]
theorem k_iinc {k : Nat} {n : Int} {v w : Int32} {L' : List Value} (hf : z_fetch Y pc = some (.iinc k n, np, tg)) (hl : z_at L k = .int v) (hv : v + Int32.ofInt n = w) (hL : Nat.blt k L.length = true) (he : z_s1 L k (.int w) = L') (kk : zOk x d Y np L' S m Q) : zOk x d Y pc L S m Q := by
  refine zk_st hf ?_ kk
  have hL : k < L.length := Nat.blt_eq.mp hL
  simp [z_st, hL, hl, hv, he]
theorem k_iadd {a b : Int32} (hf : z_fetch Y pc = some (.iadd, np, tg))  (kk : zOk x d Y np L (.int (a + b) :: S) (m) Q) : zOk x d Y pc L (.int b :: .int a :: S) (m) Q := by
  refine zk_st hf ?_ kk
  simp [z_st]
theorem k_isub {a b : Int32} (hf : z_fetch Y pc = some (.isub, np, tg))  (kk : zOk x d Y np L (.int (a - b) :: S) (m) Q) : zOk x d Y pc L (.int b :: .int a :: S) (m) Q := by
  refine zk_st hf ?_ kk
  simp [z_st]
theorem k_imul {a b : Int32} (hf : z_fetch Y pc = some (.imul, np, tg))  (kk : zOk x d Y np L (.int (a * b) :: S) (m) Q) : zOk x d Y pc L (.int b :: .int a :: S) (m) Q := by
  refine zk_st hf ?_ kk
  simp [z_st]
theorem k_iand {a b : Int32} (hf : z_fetch Y pc = some (.iand, np, tg))  (kk : zOk x d Y np L (.int (a &&& b) :: S) (m) Q) : zOk x d Y pc L (.int b :: .int a :: S) (m) Q := by
  refine zk_st hf ?_ kk
  simp [z_st]
theorem k_ior {a b : Int32} (hf : z_fetch Y pc = some (.ior, np, tg))  (kk : zOk x d Y np L (.int (a ||| b) :: S) (m) Q) : zOk x d Y pc L (.int b :: .int a :: S) (m) Q := by
  refine zk_st hf ?_ kk
  simp [z_st]
theorem k_ixor {a b : Int32} (hf : z_fetch Y pc = some (.ixor, np, tg))  (kk : zOk x d Y np L (.int (a ^^^ b) :: S) (m) Q) : zOk x d Y pc L (.int b :: .int a :: S) (m) Q := by
  refine zk_st hf ?_ kk
  simp [z_st]
theorem k_ishl {a b : Int32} (hf : z_fetch Y pc = some (.ishl, np, tg))  (kk : zOk x d Y np L (.int (a <<< (b &&& 31)) :: S) (m) Q) : zOk x d Y pc L (.int b :: .int a :: S) (m) Q := by
  refine zk_st hf ?_ kk
  simp [z_st]
theorem k_ishr {a b : Int32} (hf : z_fetch Y pc = some (.ishr, np, tg))  (kk : zOk x d Y np L (.int (a >>> (b &&& 31)) :: S) (m) Q) : zOk x d Y pc L (.int b :: .int a :: S) (m) Q := by
  refine zk_st hf ?_ kk
  simp [z_st]
theorem k_iushr {a b : Int32} (hf : z_fetch Y pc = some (.iushr, np, tg))  (kk : zOk x d Y np L (.int ((a.toUInt32 >>> (b.toUInt32 &&& Int32.toUInt32 31)).toInt32) :: S) (m) Q) : zOk x d Y pc L (.int b :: .int a :: S) (m) Q := by
  refine zk_st hf ?_ kk
  simp [z_st]
theorem k_idiv {a b : Int32} (hf : z_fetch Y pc = some (.idiv, np, tg)) (hb : ¬ b = 0) (kk : zOk x d Y np L (.int (a / b) :: S) (m) Q) : zOk x d Y pc L (.int b :: .int a :: S) (m) Q := by
  refine zk_st hf ?_ kk
  simp [z_st, hb]
theorem k_irem {a b : Int32} (hf : z_fetch Y pc = some (.irem, np, tg)) (hb : ¬ b = 0) (kk : zOk x d Y np L (.int (a - a / b * b) :: S) (m) Q) : zOk x d Y pc L (.int b :: .int a :: S) (m) Q := by
  refine zk_st hf ?_ kk
  simp [z_st, hb]
theorem k_ineg {a : Int32} (hf : z_fetch Y pc = some (.ineg, np, tg))  (kk : zOk x d Y np L (.int (-a) :: S) (m) Q) : zOk x d Y pc L (.int a :: S) (m) Q := by
  refine zk_st hf ?_ kk
  simp [z_st]
theorem k_ladd {a b : Int64} (hf : z_fetch Y pc = some (.ladd, np, tg))  (kk : zOk x d Y np L (.long (a + b) :: S) (m) Q) : zOk x d Y pc L (.long b :: .long a :: S) (m) Q := by
  refine zk_st hf ?_ kk
  simp [z_st]
theorem k_lsub {a b : Int64} (hf : z_fetch Y pc = some (.lsub, np, tg))  (kk : zOk x d Y np L (.long (a - b) :: S) (m) Q) : zOk x d Y pc L (.long b :: .long a :: S) (m) Q := by
  refine zk_st hf ?_ kk
  simp [z_st]
theorem k_lmul {a b : Int64} (hf : z_fetch Y pc = some (.lmul, np, tg))  (kk : zOk x d Y np L (.long (a * b) :: S) (m) Q) : zOk x d Y pc L (.long b :: .long a :: S) (m) Q := by
  refine zk_st hf ?_ kk
  simp [z_st]
theorem k_land {a b : Int64} (hf : z_fetch Y pc = some (.land, np, tg))  (kk : zOk x d Y np L (.long (a &&& b) :: S) (m) Q) : zOk x d Y pc L (.long b :: .long a :: S) (m) Q := by
  refine zk_st hf ?_ kk
  simp [z_st]
theorem k_lor {a b : Int64} (hf : z_fetch Y pc = some (.lor, np, tg))  (kk : zOk x d Y np L (.long (a ||| b) :: S) (m) Q) : zOk x d Y pc L (.long b :: .long a :: S) (m) Q := by
  refine zk_st hf ?_ kk
  simp [z_st]
theorem k_ldiv {a b : Int64} (hf : z_fetch Y pc = some (.ldiv, np, tg)) (hb : ¬ b = 0) (kk : zOk x d Y np L (.long (a / b) :: S) (m) Q) : zOk x d Y pc L (.long b :: .long a :: S) (m) Q := by
  refine zk_st hf ?_ kk
  simp [z_st, hb]
theorem k_lrem {a b : Int64} (hf : z_fetch Y pc = some (.lrem, np, tg)) (hb : ¬ b = 0) (kk : zOk x d Y np L (.long (a - a / b * b) :: S) (m) Q) : zOk x d Y pc L (.long b :: .long a :: S) (m) Q := by
  refine zk_st hf ?_ kk
  simp [z_st, hb]
theorem k_lshl {a : Int64} {b : Int32} (hf : z_fetch Y pc = some (.lshl, np, tg))  (kk : zOk x d Y np L (.long (a <<< (b.toInt64 &&& 63)) :: S) (m) Q) : zOk x d Y pc L (.int b :: .long a :: S) (m) Q := by
  refine zk_st hf ?_ kk
  simp [z_st]
theorem k_lcmp {a b : Int64} (hf : z_fetch Y pc = some (.lcmp, np, tg))  (kk : zOk x d Y np L (.int (lg_cmp a b) :: S) (m) Q) : zOk x d Y pc L (.long b :: .long a :: S) (m) Q := by
  refine zk_st hf ?_ kk
  simp [z_st]
theorem k_i2l {a : Int32} (hf : z_fetch Y pc = some (.i2l, np, tg))  (kk : zOk x d Y np L (.long a.toInt64 :: S) (m) Q) : zOk x d Y pc L (.int a :: S) (m) Q := by
  refine zk_st hf ?_ kk
  simp [z_st]
theorem k_l2i {a : Int64} (hf : z_fetch Y pc = some (.l2i, np, tg))  (kk : zOk x d Y np L (.int a.toInt32 :: S) (m) Q) : zOk x d Y pc L (.long a :: S) (m) Q := by
  refine zk_st hf ?_ kk
  simp [z_st]
theorem k_i2b {a : Int32} (hf : z_fetch Y pc = some (.i2b, np, tg))  (kk : zOk x d Y np L (.int a.toInt8.toInt32 :: S) (m) Q) : zOk x d Y pc L (.int a :: S) (m) Q := by
  refine zk_st hf ?_ kk
  simp [z_st]
theorem k_i2c {a : Int32} (hf : z_fetch Y pc = some (.i2c, np, tg))  (kk : zOk x d Y np L (.int (a.toUInt32 % 65536).toInt32 :: S) (m) Q) : zOk x d Y pc L (.int a :: S) (m) Q := by
  refine zk_st hf ?_ kk
  simp [z_st]
theorem k_dupi {a : Int32} (hf : z_fetch Y pc = some (.dup, np, tg))  (kk : zOk x d Y np L (.int a :: .int a :: S) (m) Q) : zOk x d Y pc L (.int a :: S) (m) Q := by
  refine zk_st hf ?_ kk
  simp [z_st]
theorem k_dup {a : Nat} (hf : z_fetch Y pc = some (.dup, np, tg))  (kk : zOk x d Y np L (.ref a :: .ref a :: S) (m) Q) : zOk x d Y pc L (.ref a :: S) (m) Q := by
  refine zk_st hf ?_ kk
  simp [z_st]
theorem k_dup2 {a : Nat} {b : Int32} (hf : z_fetch Y pc = some (.dup2, np, tg))  (kk : zOk x d Y np L (.int b :: .ref a :: .int b :: .ref a :: S) (m) Q) : zOk x d Y pc L (.int b :: .ref a :: S) (m) Q := by
  refine zk_st hf ?_ kk
  simp [z_st]
theorem k_popi {a : Int32} (hf : z_fetch Y pc = some (.pop, np, tg))  (kk : zOk x d Y np L (S) (m) Q) : zOk x d Y pc L (.int a :: S) (m) Q := by
  refine zk_st hf ?_ kk
  simp [z_st]
theorem k_pop {a : Nat} (hf : z_fetch Y pc = some (.pop, np, tg))  (kk : zOk x d Y np L (S) (m) Q) : zOk x d Y pc L (.ref a :: S) (m) Q := by
  refine zk_st hf ?_ kk
  simp [z_st]
theorem k_objinit {a : Nat} (hf : z_fetch Y pc = some (.monitorenter, np, tg)) (hc : Nat.ble (z_cat S) 8 = true) (kk : zOk x d Y np L S m Q) : zOk x d Y pc L (.ref a :: S) m Q := by
  refine zk_st hf ?_ kk
  have hc := Nat.ble_eq.mp hc
  simp [z_st, hc]
theorem k_if_eq {a : Int32} {o : Int} (hf : z_fetch Y pc = some (.ifCond .eq o, np, tg)) (kt : a = 0 → zOk x d Y tg L S m Q) (kf : ¬ (a = 0) → zOk x d Y np L S m Q) : zOk x d Y pc L (.int a :: S) m Q := by
  by_cases h : a = 0
  · exact zk_st hf (by simp [z_st, z_cond, h]) (kt h)
  · exact zk_st hf (by simp [z_st, z_cond, h]) (kf h)
theorem k_ic_eq {a b : Int32} {o : Int} (hf : z_fetch Y pc = some (.if_icmp .eq o, np, tg)) (kt : a = b → zOk x d Y tg L S m Q) (kf : ¬ (a = b) → zOk x d Y np L S m Q) : zOk x d Y pc L (.int b :: .int a :: S) m Q := by
  by_cases h : a = b
  · exact zk_st hf (by simp [z_st, z_cond, h]) (kt h)
  · exact zk_st hf (by simp [z_st, z_cond, h]) (kf h)
theorem k_if_ne {a : Int32} {o : Int} (hf : z_fetch Y pc = some (.ifCond .ne o, np, tg)) (kt : ¬ a = 0 → zOk x d Y tg L S m Q) (kf : ¬ (¬ a = 0) → zOk x d Y np L S m Q) : zOk x d Y pc L (.int a :: S) m Q := by
  by_cases h : ¬ a = 0
  · exact zk_st hf (by simp [z_st, z_cond, h]) (kt h)
  · exact zk_st hf (by simp [z_st, z_cond, h]) (kf h)
theorem k_ic_ne {a b : Int32} {o : Int} (hf : z_fetch Y pc = some (.if_icmp .ne o, np, tg)) (kt : ¬ a = b → zOk x d Y tg L S m Q) (kf : ¬ (¬ a = b) → zOk x d Y np L S m Q) : zOk x d Y pc L (.int b :: .int a :: S) m Q := by
  by_cases h : ¬ a = b
  · exact zk_st hf (by simp [z_st, z_cond, h]) (kt h)
  · exact zk_st hf (by simp [z_st, z_cond, h]) (kf h)
theorem k_if_lt {a : Int32} {o : Int} (hf : z_fetch Y pc = some (.ifCond .lt o, np, tg)) (kt : a < 0 → zOk x d Y tg L S m Q) (kf : ¬ (a < 0) → zOk x d Y np L S m Q) : zOk x d Y pc L (.int a :: S) m Q := by
  by_cases h : a < 0
  · exact zk_st hf (by simp [z_st, z_cond, h]) (kt h)
  · exact zk_st hf (by simp [z_st, z_cond, h]) (kf h)
theorem k_ic_lt {a b : Int32} {o : Int} (hf : z_fetch Y pc = some (.if_icmp .lt o, np, tg)) (kt : a < b → zOk x d Y tg L S m Q) (kf : ¬ (a < b) → zOk x d Y np L S m Q) : zOk x d Y pc L (.int b :: .int a :: S) m Q := by
  by_cases h : a < b
  · exact zk_st hf (by simp [z_st, z_cond, h]) (kt h)
  · exact zk_st hf (by simp [z_st, z_cond, h]) (kf h)
theorem k_if_ge {a : Int32} {o : Int} (hf : z_fetch Y pc = some (.ifCond .ge o, np, tg)) (kt : 0 ≤ a → zOk x d Y tg L S m Q) (kf : ¬ (0 ≤ a) → zOk x d Y np L S m Q) : zOk x d Y pc L (.int a :: S) m Q := by
  by_cases h : 0 ≤ a
  · exact zk_st hf (by simp [z_st, z_cond, h]) (kt h)
  · exact zk_st hf (by simp [z_st, z_cond, h]) (kf h)
theorem k_ic_ge {a b : Int32} {o : Int} (hf : z_fetch Y pc = some (.if_icmp .ge o, np, tg)) (kt : b ≤ a → zOk x d Y tg L S m Q) (kf : ¬ (b ≤ a) → zOk x d Y np L S m Q) : zOk x d Y pc L (.int b :: .int a :: S) m Q := by
  by_cases h : b ≤ a
  · exact zk_st hf (by simp [z_st, z_cond, h]) (kt h)
  · exact zk_st hf (by simp [z_st, z_cond, h]) (kf h)
theorem k_if_gt {a : Int32} {o : Int} (hf : z_fetch Y pc = some (.ifCond .gt o, np, tg)) (kt : 0 < a → zOk x d Y tg L S m Q) (kf : ¬ (0 < a) → zOk x d Y np L S m Q) : zOk x d Y pc L (.int a :: S) m Q := by
  by_cases h : 0 < a
  · exact zk_st hf (by simp [z_st, z_cond, h]) (kt h)
  · exact zk_st hf (by simp [z_st, z_cond, h]) (kf h)
theorem k_ic_gt {a b : Int32} {o : Int} (hf : z_fetch Y pc = some (.if_icmp .gt o, np, tg)) (kt : b < a → zOk x d Y tg L S m Q) (kf : ¬ (b < a) → zOk x d Y np L S m Q) : zOk x d Y pc L (.int b :: .int a :: S) m Q := by
  by_cases h : b < a
  · exact zk_st hf (by simp [z_st, z_cond, h]) (kt h)
  · exact zk_st hf (by simp [z_st, z_cond, h]) (kf h)
theorem k_if_le {a : Int32} {o : Int} (hf : z_fetch Y pc = some (.ifCond .le o, np, tg)) (kt : a ≤ 0 → zOk x d Y tg L S m Q) (kf : ¬ (a ≤ 0) → zOk x d Y np L S m Q) : zOk x d Y pc L (.int a :: S) m Q := by
  by_cases h : a ≤ 0
  · exact zk_st hf (by simp [z_st, z_cond, h]) (kt h)
  · exact zk_st hf (by simp [z_st, z_cond, h]) (kf h)
theorem k_ic_le {a b : Int32} {o : Int} (hf : z_fetch Y pc = some (.if_icmp .le o, np, tg)) (kt : a ≤ b → zOk x d Y tg L S m Q) (kf : ¬ (a ≤ b) → zOk x d Y np L S m Q) : zOk x d Y pc L (.int b :: .int a :: S) m Q := by
  by_cases h : a ≤ b
  · exact zk_st hf (by simp [z_st, z_cond, h]) (kt h)
  · exact zk_st hf (by simp [z_st, z_cond, h]) (kf h)
theorem k_goto {o : Int} (hf : z_fetch Y pc = some (.goto o, np, tg)) (kk : zOk x d Y tg L S m Q) : zOk x d Y pc L (S) m Q := by
  refine zk_st hf ?_ kk
  simp [z_st]
theorem k_nulln {o : Int} (hf : z_fetch Y pc = some (.ifnull o, np, tg)) (kk : zOk x d Y tg L S m Q) : zOk x d Y pc L (.null :: S) m Q := by
  refine zk_st hf ?_ kk
  simp [z_st]
theorem k_nullr {o : Int} {a : Nat} (hf : z_fetch Y pc = some (.ifnull o, np, tg)) (kk : zOk x d Y np L S m Q) : zOk x d Y pc L (.ref a :: S) m Q := by
  refine zk_st hf ?_ kk
  simp [z_st]
theorem k_nonn {o : Int} (hf : z_fetch Y pc = some (.ifnonnull o, np, tg)) (kk : zOk x d Y np L S m Q) : zOk x d Y pc L (.null :: S) m Q := by
  refine zk_st hf ?_ kk
  simp [z_st]
theorem k_nonr {o : Int} {a : Nat} (hf : z_fetch Y pc = some (.ifnonnull o, np, tg)) (kk : zOk x d Y tg L S m Q) : zOk x d Y pc L (.ref a :: S) m Q := by
  refine zk_st hf ?_ kk
  simp [z_st]
theorem k_tsout {dflt lo hi : Int} {offs : Array Int} {a : Int32} (hf : z_fetch Y pc = some (.tableswitch dflt lo hi offs, np, tg)) (h : a.toInt < lo ∨ hi < a.toInt) (kk : zOk x d Y tg L S m Q) : zOk x d Y pc L (.int a :: S) m Q := by
  refine zk_st hf ?_ kk
  simp [z_st, h]
theorem k_tsin {dflt lo hi : Int} {offs : Array Int} {a : Int32} {o : Int} {t : Nat} (hf : z_fetch Y pc = some (.tableswitch dflt lo hi offs, np, tg)) (h1 : ¬ a.toInt < lo) (h2 : ¬ hi < a.toInt) (ho : offs[(a.toInt - lo).toNat]? = some o) (ht : o.toNat = t) (kk : zOk x d Y t L S m Q) : zOk x d Y pc L (.int a :: S) m Q := by
  subst ht
  refine zk_st hf ?_ kk
  have h : ¬ (a.toInt < lo ∨ hi < a.toInt) := by omega
  simp only [z_st]
  rw [if_neg h, ho]
theorem k_getI {p c : Nat} (hf : z_fetch Y pc = some (.getfield c, np, tg)) (hp : zo G p c) (hk : Nat.blt tg (z_fn c) = true) (kk : zOk x d Y np L (.int (I p tg) :: S) (I, J, R, G) Q) : zOk x d Y pc L (.ref p :: S) (I, J, R, G) Q := by
  refine zk_st hf ?_ kk
  obtain ⟨h1, h2, h3⟩ := hp
  have h4 : tg < z_fn c := Nat.blt_eq.mp hk
  simp [z_st, zI, zJ, zR, zK, zN, zn, zt, h1, h2, h3, h4]
theorem k_getR {p c : Nat} {q : Option Nat} (hf : z_fetch Y pc = some (.instanceof c, np, tg)) (hp : zo G p c) (hk : Nat.blt tg (z_fn c) = true) (hq : R p tg = q) (kk : zOk x d Y np L (va_rf q :: S) (I, J, R, G) Q) : zOk x d Y pc L (.ref p :: S) (I, J, R, G) Q := by
  refine zk_st hf ?_ kk
  obtain ⟨h1, h2, h3⟩ := hp
  have h4 : tg < z_fn c := Nat.blt_eq.mp hk
  simp [z_st, zI, zJ, zR, zK, zN, zn, zt, h1, h2, h3, h4, hq]
theorem k_getr {p c q : Nat} (hf : z_fetch Y pc = some (.instanceof c, np, tg)) (hp : zo G p c) (hk : Nat.blt tg (z_fn c) = true) (hq : R p tg = some q) (kk : zOk x d Y np L (.ref q :: S) (I, J, R, G) Q) : zOk x d Y pc L (.ref p :: S) (I, J, R, G) Q := by
  refine zk_st hf ?_ kk
  obtain ⟨h1, h2, h3⟩ := hp
  have h4 : tg < z_fn c := Nat.blt_eq.mp hk
  simp [z_st, zI, zJ, zR, zK, zN, zn, zt, h1, h2, h3, h4, hq, va_rf]
theorem k_getn {p c : Nat} (hf : z_fetch Y pc = some (.instanceof c, np, tg)) (hp : zo G p c) (hk : Nat.blt tg (z_fn c) = true) (hq : R p tg = none) (kk : zOk x d Y np L (.null :: S) (I, J, R, G) Q) : zOk x d Y pc L (.ref p :: S) (I, J, R, G) Q := by
  refine zk_st hf ?_ kk
  obtain ⟨h1, h2, h3⟩ := hp
  have h4 : tg < z_fn c := Nat.blt_eq.mp hk
  simp [z_st, zI, zJ, zR, zK, zN, zn, zt, h1, h2, h3, h4, hq, va_rf]
theorem k_putI {p c : Nat} {v : Int32} (hf : z_fetch Y pc = some (.putfield c, np, tg)) (hp : zo G p c) (hk : Nat.blt tg (z_fn c) = true) (kk : zOk x d Y np L (S) (z_u I p tg v, J, R, G) Q) : zOk x d Y pc L (.int v :: .ref p :: S) (I, J, R, G) Q := by
  refine zk_st hf ?_ kk
  obtain ⟨h1, h2, h3⟩ := hp
  have h4 : tg < z_fn c := Nat.blt_eq.mp hk
  simp [z_st, zI, zJ, zR, zK, zN, zn, zt, h1, h2, h3, h4]
theorem k_putZ {p c : Nat} {v : Int32} (hf : z_fetch Y pc = some (.ldc_w c, np, tg)) (hp : zo G p c) (hk : Nat.blt tg (z_fn c) = true) (hv : v = 0 ∨ v = 1) (kk : zOk x d Y np L (S) (z_u I p tg v, J, R, G) Q) : zOk x d Y pc L (.int v :: .ref p :: S) (I, J, R, G) Q := by
  refine zk_st hf ?_ kk
  obtain ⟨h1, h2, h3⟩ := hp
  have h4 : tg < z_fn c := Nat.blt_eq.mp hk
  simp [z_st, zI, zJ, zR, zK, zN, zn, zt, h1, h2, h3, h4, hv]
theorem k_putR {p c v : Nat} (hf : z_fetch Y pc = some (.putstatic c, np, tg)) (hp : zo G p c) (hk : Nat.blt tg (z_fn c) = true) (kk : zOk x d Y np L (S) (I, J, z_u R p tg (some v), G) Q) : zOk x d Y pc L (.ref v :: .ref p :: S) (I, J, R, G) Q := by
  refine zk_st hf ?_ kk
  obtain ⟨h1, h2, h3⟩ := hp
  have h4 : tg < z_fn c := Nat.blt_eq.mp hk
  simp [z_st, zI, zJ, zR, zK, zN, zn, zt, h1, h2, h3, h4]
theorem k_putN {p c : Nat} (hf : z_fetch Y pc = some (.putstatic c, np, tg)) (hp : zo G p c) (hk : Nat.blt tg (z_fn c) = true) (kk : zOk x d Y np L (S) (I, J, z_u R p tg none, G) Q) : zOk x d Y pc L (.null :: .ref p :: S) (I, J, R, G) Q := by
  refine zk_st hf ?_ kk
  obtain ⟨h1, h2, h3⟩ := hp
  have h4 : tg < z_fn c := Nat.blt_eq.mp hk
  simp [z_st, zI, zJ, zR, zK, zN, zn, zt, h1, h2, h3, h4]
theorem k_strv {p : Nat} (hf : z_fetch Y pc = some (.fload 0, np, tg)) (hp : p < 6) (kk : zOk x d Y np L (.retAddr (p + 10) :: S) (m) Q) : zOk x d Y pc L (.retAddr p :: S) (m) Q := by
  refine zk_st hf ?_ kk
  simp [z_st, hp]
theorem k_strc {p : Nat} (hf : z_fetch Y pc = some (.fload 1, np, tg)) (hp : p < 6) (kk : zOk x d Y np L (.int 0 :: S) (m) Q) : zOk x d Y pc L (.retAddr p :: S) (m) Q := by
  refine zk_st hf ?_ kk
  simp [z_st, hp]
theorem k_alen {p kd n : Nat} {v : Int32} (hf : z_fetch Y pc = some (.arraylength, np, tg)) (hp : za G p kd n) (hk : Nat.ble 12 kd && Nat.blt kd 20) (hv : Int32.ofNat n = v) (kk : zOk x d Y np L (.int v :: S) (I, J, R, G) Q) : zOk x d Y pc L (.ref p :: S) (I, J, R, G) Q := by
  refine zk_st hf ?_ kk
  obtain ⟨h1, h2, h3⟩ := hp
  have hk := hk
  simp only [Bool.and_eq_true, Nat.ble_eq, Nat.blt_eq] at hk
  simp [z_st, zI, zJ, zR, zK, zN, zn, zt, h1, h2, h3, hk.1, hk.2, hv]
theorem k_slen {v : Int32} (hf : z_fetch Y pc = some (.arraylength, np, tg)) (hv : Int32.ofNat x.1 = v) (kk : zOk x d Y np L (.int v :: S) m Q) : zOk x d Y pc L (.retAddr 30 :: S) m Q := by
  refine zk_st hf ?_ kk
  simp [z_st, hv]
theorem k_blen {p : Nat} {v : Int32} (hf : z_fetch Y pc = some (.arraylength, np, tg)) (hp : p < 6) (hv : Int32.ofNat (z_len.getD p 0) = v) (kk : zOk x d Y np L (.int v :: S) m Q) : zOk x d Y pc L (.retAddr (p + 10) :: S) m Q := by
  refine zk_st hf ?_ kk
  have h1 : ¬ p + 10 = 30 := by omega
  have h2 : p + 10 < 16 := by omega
  simp only [z_st]
  rw [if_neg h1, if_pos ⟨by omega, h2⟩, Nat.add_sub_cancel, hv]
theorem z_ixin {i : Int32} {n k : Nat} (h : vp_in i n) (hk : i.toNatClampNeg = k) : z_ix i n = some k := by
  subst hk
  unfold z_ix
  rw [if_neg h]
theorem k_iald {p n k : Nat} {i : Int32}  (hf : z_fetch Y pc = some (.iaload, np, tg)) (hp : za G p 14 n) (hi : vp_in i n) (hk : i.toNatClampNeg = k)  (kk : zOk x d Y np L (.int (I p k) :: S) (I, J, R, G) Q) : zOk x d Y pc L (.int i :: .ref p :: S) (I, J, R, G) Q := by
  refine zk_st hf ?_ kk
  obtain ⟨h1, h2, h3⟩ := hp
  simp [z_st, zI, zJ, zR, zK, zN, zn, zt, h1, h2, h3, z_ixin hi hk]
theorem k_bald {p n k : Nat} {i : Int32}  (hf : z_fetch Y pc = some (.baload, np, tg)) (hp : za G p 12 n) (hi : vp_in i n) (hk : i.toNatClampNeg = k)  (kk : zOk x d Y np L (.int (I p k) :: S) (I, J, R, G) Q) : zOk x d Y pc L (.int i :: .ref p :: S) (I, J, R, G) Q := by
  refine zk_st hf ?_ kk
  obtain ⟨h1, h2, h3⟩ := hp
  simp [z_st, zI, zJ, zR, zK, zN, zn, zt, h1, h2, h3, z_ixin hi hk]
theorem k_zald {p n k : Nat} {i : Int32}  (hf : z_fetch Y pc = some (.baload, np, tg)) (hp : za G p 16 n) (hi : vp_in i n) (hk : i.toNatClampNeg = k)  (kk : zOk x d Y np L (.int (I p k) :: S) (I, J, R, G) Q) : zOk x d Y pc L (.int i :: .ref p :: S) (I, J, R, G) Q := by
  refine zk_st hf ?_ kk
  obtain ⟨h1, h2, h3⟩ := hp
  simp [z_st, zI, zJ, zR, zK, zN, zn, zt, h1, h2, h3, z_ixin hi hk]
theorem k_cald {p n k : Nat} {i : Int32}  (hf : z_fetch Y pc = some (.caload, np, tg)) (hp : za G p 13 n) (hi : vp_in i n) (hk : i.toNatClampNeg = k)  (kk : zOk x d Y np L (.int (I p k) :: S) (I, J, R, G) Q) : zOk x d Y pc L (.int i :: .ref p :: S) (I, J, R, G) Q := by
  refine zk_st hf ?_ kk
  obtain ⟨h1, h2, h3⟩ := hp
  simp [z_st, zI, zJ, zR, zK, zN, zn, zt, h1, h2, h3, z_ixin hi hk]
theorem k_lald {p n k : Nat} {i : Int32}  (hf : z_fetch Y pc = some (.laload, np, tg)) (hp : za G p 15 n) (hi : vp_in i n) (hk : i.toNatClampNeg = k)  (kk : zOk x d Y np L (.long (J p k) :: S) (I, J, R, G) Q) : zOk x d Y pc L (.int i :: .ref p :: S) (I, J, R, G) Q := by
  refine zk_st hf ?_ kk
  obtain ⟨h1, h2, h3⟩ := hp
  simp [z_st, zI, zJ, zR, zK, zN, zn, zt, h1, h2, h3, z_ixin hi hk]
theorem k_aald {p n k kd : Nat} {i : Int32} {q : Option Nat} (hf : z_fetch Y pc = some (.aaload, np, tg)) (hp : za G p kd n) (hkd : Nat.ble 17 kd && Nat.blt kd 20) (hi : vp_in i n) (hk : i.toNatClampNeg = k) (hq : R p k = q) (kk : zOk x d Y np L (va_rf q :: S) (I, J, R, G) Q) : zOk x d Y pc L (.int i :: .ref p :: S) (I, J, R, G) Q := by
  refine zk_st hf ?_ kk
  obtain ⟨h1, h2, h3⟩ := hp
  have hkd := hkd
  simp only [Bool.and_eq_true, Nat.ble_eq, Nat.blt_eq] at hkd
  simp [z_st, zI, zJ, zR, zK, zN, zn, zt, h1, h2, h3, hkd.1, hkd.2, z_ixin hi hk, hq]
theorem k_sld {k : Nat} {i : Int32} (hf : z_fetch Y pc = some (.iaload, np, tg)) (hi : vp_in i x.1) (hk : i.toNatClampNeg = k) (kk : zOk x d Y np L (.int (x.2 k) :: S) m Q) : zOk x d Y pc L (.int i :: .retAddr 30 :: S) m Q := by
  refine zk_st hf ?_ kk
  simp [z_st, z_ixin hi hk]
theorem k_bldx {p k : Nat} {i : Int32} (hf : z_fetch Y pc = some (.baload, np, tg)) (hp : p < 6) (hi : vp_in i (z_len.getD p 0)) (hk : i.toNatClampNeg = k) (kk : zOk x d Y np L (.int ((z_byt.getD p []).getD k 0) :: S) m Q) : zOk x d Y pc L (.int i :: .retAddr (p + 10) :: S) m Q := by
  refine zk_st hf ?_ kk
  have h2 : p + 10 < 16 := by omega
  simp only [z_st]
  rw [if_pos ⟨by omega, h2⟩, Nat.add_sub_cancel, z_ixin hi hk]
theorem k_iast {p n k : Nat} {i : Int32} {v : Int32} (hf : z_fetch Y pc = some (.iastore, np, tg)) (hp : za G p 14 n) (hi : vp_in i n) (hk : i.toNatClampNeg = k)  (kk : zOk x d Y np L (S) (z_u I p k v, J, R, G) Q) : zOk x d Y pc L (.int v :: .int i :: .ref p :: S) (I, J, R, G) Q := by
  refine zk_st hf ?_ kk
  obtain ⟨h1, h2, h3⟩ := hp
  simp [z_st, zI, zJ, zR, zK, zN, zn, zt, h1, h2, h3, z_ixin hi hk]
theorem k_bast {p n k : Nat} {i : Int32} {v w : Int32} (hf : z_fetch Y pc = some (.bastore, np, tg)) (hp : za G p 12 n) (hi : vp_in i n) (hk : i.toNatClampNeg = k) (hv : vp_nar .byte v = w) (kk : zOk x d Y np L (S) (z_u I p k w, J, R, G) Q) : zOk x d Y pc L (.int v :: .int i :: .ref p :: S) (I, J, R, G) Q := by
  refine zk_st hf ?_ kk
  obtain ⟨h1, h2, h3⟩ := hp
  simp [z_st, zI, zJ, zR, zK, zN, zn, zt, h1, h2, h3, z_ixin hi hk, hv]
theorem k_zast {p n k : Nat} {i : Int32} {v w : Int32} (hf : z_fetch Y pc = some (.bastore, np, tg)) (hp : za G p 16 n) (hi : vp_in i n) (hk : i.toNatClampNeg = k) (hv : vp_nar .boolean v = w) (kk : zOk x d Y np L (S) (z_u I p k w, J, R, G) Q) : zOk x d Y pc L (.int v :: .int i :: .ref p :: S) (I, J, R, G) Q := by
  refine zk_st hf ?_ kk
  obtain ⟨h1, h2, h3⟩ := hp
  simp [z_st, zI, zJ, zR, zK, zN, zn, zt, h1, h2, h3, z_ixin hi hk, hv]
theorem k_cast {p n k : Nat} {i : Int32} {v w : Int32} (hf : z_fetch Y pc = some (.castore, np, tg)) (hp : za G p 13 n) (hi : vp_in i n) (hk : i.toNatClampNeg = k) (hv : vp_nar .char v = w) (kk : zOk x d Y np L (S) (z_u I p k w, J, R, G) Q) : zOk x d Y pc L (.int v :: .int i :: .ref p :: S) (I, J, R, G) Q := by
  refine zk_st hf ?_ kk
  obtain ⟨h1, h2, h3⟩ := hp
  simp [z_st, zI, zJ, zR, zK, zN, zn, zt, h1, h2, h3, z_ixin hi hk, hv]
theorem k_last {p n k : Nat} {i : Int32} {v : Int64} (hf : z_fetch Y pc = some (.lastore, np, tg)) (hp : za G p 15 n) (hi : vp_in i n) (hk : i.toNatClampNeg = k)  (kk : zOk x d Y np L (S) (I, z_u J p k v, R, G) Q) : zOk x d Y pc L (.long v :: .int i :: .ref p :: S) (I, J, R, G) Q := by
  refine zk_st hf ?_ kk
  obtain ⟨h1, h2, h3⟩ := hp
  simp [z_st, zI, zJ, zR, zK, zN, zn, zt, h1, h2, h3, z_ixin hi hk]
theorem k_aast {p n k kd v c : Nat} {i : Int32} (hf : z_fetch Y pc = some (.aastore, np, tg)) (hp : za G p kd n) (hv : zo G v c) (hc : z_elt kd = some c) (hi : vp_in i n) (hk : i.toNatClampNeg = k) (kk : zOk x d Y np L S (I, J, z_u R p k (some v), G) Q) : zOk x d Y pc L (.ref v :: .int i :: .ref p :: S) (I, J, R, G) Q := by
  refine zk_st hf ?_ kk
  obtain ⟨h1, h2, h3⟩ := hp
  obtain ⟨g1, g2, g3⟩ := hv
  simp [z_st, zI, zJ, zR, zK, zN, zn, zt, h1, h2, h3, g1, g2, hc, z_ixin hi hk]
/-- the memory with a new cell -/
def zGn (G : zG) (kd len : Nat) : zG := (z_1 G.1 G.2.2.1 kd, z_1 G.2.1 G.2.2.1 len, G.2.2.1 + 1, G.2.2.2 + len)
theorem k_new {c : Nat} (hf : z_fetch Y pc = some (.new c, np, tg)) (hc : Nat.blt c 12 = true) (hr : G.2.2.1 + 1 ≤ 600000 ∧ G.2.2.2 + z_fn c ≤ 7302250) (kk : zOk x d Y np L (.ref G.2.2.1 :: S) (z_r I G.2.2.1 (fun _ => 0), z_r J G.2.2.1 (fun _ => 0), z_r R G.2.2.1 (fun _ => none), zGn G c (z_fn c)) Q) : zOk x d Y pc L S (I, J, R, G) Q := by
  refine zk_st hf ?_ kk
  have hc : c < 12 := Nat.blt_eq.mp hc
  simp [z_st, zI, zJ, zR, zK, zN, zn, zt, hr, hc, sC, zGn]
theorem k_newa {t : ArrayType} {n : Int32} {N kd : Nat} (hf : z_fetch Y pc = some (.newarray t, np, tg)) (hn : ¬ n < 0) (hN : n.toNatClampNeg = N) (hle : N ≤ 65536) (hkd : z_kd t = kd) (h99 : ¬ kd = 99) (hr : G.2.2.1 + 1 ≤ 600000 ∧ G.2.2.2 + N ≤ 7302250) (kk : zOk x d Y np L (.ref G.2.2.1 :: S) (z_r I G.2.2.1 (fun _ => 0), z_r J G.2.2.1 (fun _ => 0), z_r R G.2.2.1 (fun _ => none), zGn G kd N) Q) : zOk x d Y pc L (.int n :: S) (I, J, R, G) Q := by
  refine zk_st hf ?_ kk
  subst hN
  subst hkd
  have h : ¬ (n < 0 ∨ 65536 < n.toNatClampNeg ∨ z_kd t = 99) := by
    rintro (h | h | h)
    · exact hn h
    · omega
    · exact h99 h
  simp only [z_st]
  rw [if_neg h, if_pos hr]
  rfl
theorem k_newq {n : Int32} {N kd : Nat} (hf : z_fetch Y pc = some (.anewarray kd, np, tg)) (hn : ¬ n < 0) (hN : n.toNatClampNeg = N) (hle : N ≤ 65536) (hkd : Nat.ble 17 kd && Nat.blt kd 20) (hr : G.2.2.1 + 1 ≤ 600000 ∧ G.2.2.2 + N ≤ 7302250) (kk : zOk x d Y np L (.ref G.2.2.1 :: S) (z_r I G.2.2.1 (fun _ => 0), z_r J G.2.2.1 (fun _ => 0), z_r R G.2.2.1 (fun _ => none), zGn G kd N) Q) : zOk x d Y pc L (.int n :: S) (I, J, R, G) Q := by
  refine zk_st hf ?_ kk
  subst hN
  have hkd := hkd
  simp only [Bool.and_eq_true, Nat.ble_eq, Nat.blt_eq] at hkd
  have h : ¬ (n < 0 ∨ 65536 < n.toNatClampNeg) := by
    rintro (h | h)
    · exact hn h
    · omega
  simp only [z_st]
  rw [if_neg h, if_pos ⟨hr.1, hr.2, hkd.1, hkd.2⟩]
  rfl
theorem k_clone {p n : Nat} (hf : z_fetch Y pc = some (.monitorexit, np, tg)) (hp : za G p 14 n) (hr : G.2.2.1 + 1 ≤ 600000 ∧ G.2.2.2 + n ≤ 7302250) (hc : z_cat S + 14 ≤ 60) (kk : zOk x d Y np L (.ref G.2.2.1 :: S) (z_r (z_r I G.2.2.1 (fun _ => 0)) G.2.2.1 (I p), z_r J G.2.2.1 (fun _ => 0), z_r R G.2.2.1 (fun _ => none), zGn G 14 n) Q) : zOk x d Y pc L (.ref p :: S) (I, J, R, G) Q := by
  refine zk_st hf ?_ kk
  obtain ⟨h1, h2, h3⟩ := hp
  simp only [z_st]
  rw [if_pos ⟨h1, h2, hr.1, by rw [show zN (I, J, R, G) p = n from h3]; exact hr.2, hc⟩, show zN (I, J, R, G) p = n from h3]
  rfl
theorem k_castA {p n : Nat} {o : Nat} (hf : z_fetch Y pc = some (.checkcast o, np, tg)) (hp : za G p 14 n) (kk : zOk x d Y np L (.ref p :: S) (I, J, R, G) Q) : zOk x d Y pc L (.ref p :: S) (I, J, R, G) Q := by
  refine zk_st hf ?_ kk
  obtain ⟨h1, h2, h3⟩ := hp
  simp [z_st, zI, zJ, zR, zK, zN, zn, zt, h1, h2]
theorem k_copy {p q a b sp' dp' n' : Nat} {sp dp n : Int32} (hf : z_fetch Y pc = some (.swap, np, tg)) (hp : za G p 14 a) (hq : za G q 14 b) (h1 : ¬ sp < 0) (h2 : ¬ dp < 0) (h3 : ¬ n < 0) (e1 : sp.toNatClampNeg = sp') (e2 : dp.toNatClampNeg = dp') (e3 : n.toNatClampNeg = n') (h4 : sp' + n' ≤ a) (h5 : dp' + n' ≤ b) (hc : z_cat S ≤ 8) (kk : zOk x d Y np L S (z_r I q (va_cpy (I p) (I q) sp' dp' n'), J, R, G) Q) : zOk x d Y pc L (.int n :: .int dp :: .ref q :: .int sp :: .ref p :: S) (I, J, R, G) Q := by
  refine zk_st hf ?_ kk
  subst e1; subst e2; subst e3
  obtain ⟨p1, p2, p3⟩ := hp
  obtain ⟨q1, q2, q3⟩ := hq
  simp only [z_st]
  rw [if_pos ⟨p1, p2, q1, q2, h1, h2, h3, by rw [show zN (I, J, R, G) p = a from p3]; exact h4, by rw [show zN (I, J, R, G) q = b from q3]; exact h5, hc⟩]
theorem k_min {a b : Int32} (hf : z_fetch Y pc = some (.fneg, np, tg)) (hc : Nat.ble (z_cat S) 8 = true) (kk : zOk x d Y np L (.int (if b < a then b else a) :: S) m Q) : zOk x d Y pc L (.int b :: .int a :: S) m Q := by
  refine zk_st hf ?_ kk
  have hc := Nat.ble_eq.mp hc
  simp [z_st, hc]
theorem k_iret {v : Int32} (hf : z_fetch Y pc = some (.ireturn, np, tg)) (hn : z_nar tg v = v) (q : Q (some (.int v)) m) : zOk x d Y pc L [.int v] m Q :=
  zk_ret hf (by simp [z_st, hn]) q
theorem k_lret {v : Int64} (hf : z_fetch Y pc = some (.lreturn, np, tg)) (q : Q (some (.long v)) m) : zOk x d Y pc L [.long v] m Q :=
  zk_ret hf (by simp [z_st]) q
theorem k_aret {v : Nat} (hf : z_fetch Y pc = some (.areturn, np, tg)) (q : Q (some (.ref v)) m) : zOk x d Y pc L [.ref v] m Q :=
  zk_ret hf (by simp [z_st]) q
theorem k_nret (hf : z_fetch Y pc = some (.areturn, np, tg)) (q : Q (some .null) m) : zOk x d Y pc L [.null] m Q :=
  zk_ret hf (by simp [z_st]) q
theorem k_vret (hf : z_fetch Y pc = some (.return_, np, tg)) (q : Q none m) : zOk x d Y pc L [] m Q :=
  zk_ret hf (by simp [z_st]) q
/-- calls: as: the arguments, the last one first, with the receiver -/
theorem z_atl (l : List Value) (v : Value) (r : List Value) : z_at (l ++ v :: r) l.length = v := by
  induction l with
  | nil => rfl
  | cons a l ih => exact ih
theorem k_calls {y : Nat} {as rest Ls : List Value} {Q' : Option Value → zM → Prop} (hf : z_fetch Y pc = some (.invokestatic y, np, tg)) (hn : z_na.getD y 0 = as.length) (hc : Nat.ble (z_cat rest) 8 = true) (hm : Nat.ble (z_cat as) (z_ml.getD y 0) = true) (hl : z_l0 as.reverse (z_ml.getD y 0) = Ls) (hy : zOk x d y 0 Ls [] m Q')
    (kk : ∀ v m', Q' v m' → zOk x (d + 1) Y np L (v.toList ++ rest) m' Q) : zOk x (d + 1) Y pc L (as ++ rest) m Q := by
  subst hl
  refine zk_call hf ?_ hy kk
  have hc := Nat.ble_eq.mp hc
  have hm := Nat.ble_eq.mp hm
  simp only [z_st]
  rw [hn, List.drop_left, List.take_left, if_pos ⟨by simp, hc, hm⟩]
theorem k_calli {y p : Nat} {as rest Ls : List Value} {Q' : Option Value → zM → Prop} (hf : z_fetch Y pc = some (.invokespecial y, np, tg)) (hn : z_na.getD y 0 = as.length + 1) (hc : Nat.ble (z_cat rest) 8 = true) (hm : Nat.ble (z_cat (as ++ [.ref p])) (z_ml.getD y 0) = true) (hl : z_l0 (.ref p :: as.reverse) (z_ml.getD y 0) = Ls) (hy : zOk x d y 0 Ls [] m Q')
    (kk : ∀ v m', Q' v m' → zOk x (d + 1) Y np L (v.toList ++ rest) m' Q) : zOk x (d + 1) Y pc L (as ++ .ref p :: rest) m Q := by
  subst hl
  have hc := Nat.ble_eq.mp hc
  have hm := Nat.ble_eq.mp hm
  have e2 : as ++ Value.ref p :: rest = (as ++ [.ref p]) ++ rest := by simp
  refine zk_call hf (as := .ref p :: as.reverse) (rest := rest) ?_ hy kk
  simp only [z_st]
  rw [hn, Nat.add_sub_cancel, z_atl]
  have hl : as.length + 1 = (as ++ [Value.ref p]).length := by simp
  rw [e2, hl, List.drop_left, List.take_left]
  simp only
  rw [if_pos ⟨by simp, by simp, hc, hm⟩]
  simp
theorem k_callv {y p : Nat} {as rest Ls : List Value} {Q' : Option Value → zM → Prop} (hf : z_fetch Y pc = some (.invokevirtual y, np, tg)) (hp : zo G p (z_oc.getD y 99)) (hn : z_na.getD y 0 = as.length + 1) (hc : Nat.ble (z_cat rest) 8 = true) (hm : Nat.ble (z_cat (as ++ [.ref p])) (z_ml.getD y 0) = true) (hl : z_l0 (.ref p :: as.reverse) (z_ml.getD y 0) = Ls) (hy : zOk x d y 0 Ls [] (I, J, R, G) Q')
    (kk : ∀ v m', Q' v m' → zOk x (d + 1) Y np L (v.toList ++ rest) m' Q) : zOk x (d + 1) Y pc L (as ++ .ref p :: rest) (I, J, R, G) Q := by
  subst hl
  have hc := Nat.ble_eq.mp hc
  have hm := Nat.ble_eq.mp hm
  obtain ⟨h1, h2, h3⟩ := hp
  have e2 : as ++ Value.ref p :: rest = (as ++ [.ref p]) ++ rest := by simp
  refine zk_call hf (as := .ref p :: as.reverse) (rest := rest) ?_ hy kk
  simp only [z_st]
  rw [hn, Nat.add_sub_cancel, z_atl]
  have hl : as.length + 1 = (as ++ [Value.ref p]).length := by simp
  rw [e2, hl, List.drop_left, List.take_left]
  simp only
  rw [if_pos ⟨by simp, h1, h2, by simp, hc, hm⟩]
  simp
theorem k_callx {y p : Nat} {as rest Ls : List Value} {Q' : Option Value → zM → Prop} (hf : z_fetch Y pc = some (.invokevirtual y, np, tg)) (hp : p < 6) (ho : z_oc.getD y 99 = 50) (hn : z_na.getD y 0 = as.length + 1) (hc : Nat.ble (z_cat rest) 8 = true) (hm : Nat.ble (z_cat (as ++ [.retAddr p])) (z_ml.getD y 0) = true) (hl : z_l0 (.retAddr p :: as.reverse) (z_ml.getD y 0) = Ls) (hy : zOk x d y 0 Ls [] m Q')
    (kk : ∀ v m', Q' v m' → zOk x (d + 1) Y np L (v.toList ++ rest) m' Q) : zOk x (d + 1) Y pc L (as ++ .retAddr p :: rest) m Q := by
  subst hl
  have hc := Nat.ble_eq.mp hc
  have hm := Nat.ble_eq.mp hm
  have e2 : as ++ Value.retAddr p :: rest = (as ++ [.retAddr p]) ++ rest := by simp
  refine zk_call hf (as := .retAddr p :: as.reverse) (rest := rest) ?_ hy kk
  simp only [z_st]
  rw [hn, Nat.add_sub_cancel, z_atl]
  have hl : as.length + 1 = (as ++ [Value.retAddr p]).length := by simp
  rw [e2, hl, List.drop_left, List.take_left]
  simp only
  rw [if_pos ⟨by simp, hp, ho, by simp, hc, hm⟩]
  simp
end
