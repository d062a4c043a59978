/-! THE STEP THEOREM; cells and slots never shrink. -/
section
variable {x : Nat × (Nat → Int32)} {b : Nat} {cs : Nat → ClassId} {D : va_G} {adK adV : Nat → Nat} {sb : Nat} {fm : Value} {Y : Nat} {p : Program} {l : Launch} {e : Env} {Rm : Room} {s : State} {mi : MethodId} {args : Array Value} {below : List Frame} {meth : Method} {c : Code} {n0 t0 : Nat} {Q : State → Prop} {pc np tg : Nat} {L S : List Value} {m : zM} {pc' : Nat} {L' S' : List Value} {m' : zM}
set_option maxHeartbeats 4000000 in
theorem z_st_mono {i : Instr} (h : z_st x i np tg L S m = some (.inl (pc', L', S', m'))) : zn m ≤ zn m' ∧ zt m ≤ zt m' := by
  have r0 : zn m ≤ zn m ∧ zt m ≤ zt m := ⟨Nat.le_refl _, Nat.le_refl _⟩
  cases i <;> simp only [z_st] at h <;> (repeat' (split at h)) <;> first
    | (cases h; done)
    | (cases h; exact r0)
    | (cases h; exact ⟨Nat.le_succ _, Nat.le_add_right _ _⟩)

set_option maxHeartbeats 4000000 in
theorem z_step {i : Instr} (C : z_C x b cs D adK adV sb fm Y p s mi args meth c) (hrm : 1 ≤ Rm.frames ∧ 64 ≤ Rm.locals) (hn0 : s.heap.size = b + n0) (hck : z_ckE Y (pc, i, np, tg) = true) (hst : z_st x i np tg L S m = some (.inl (pc', L', S', m'))) (hr : zn m' ≤ n0 + Rm.cells ∧ zt m' ≤ t0 + Rm.slots) (kk : z_G b cs D (zX adK adV sb fm) Y p l e Rm s mi args below meth c n0 t0 Q pc' L' S' m') : z_G b cs D (zX adK adV sb fm) Y p l e Rm s mi args below meth c n0 t0 Q pc L S m := by
  cases i
  case iadd =>
    simp only [z_st] at hst
    split at hst
    · cases hst; exact zs_iadd C hck kk
    · cases hst
  case isub =>
    simp only [z_st] at hst
    split at hst
    · cases hst; exact zs_isub C hck kk
    · cases hst
  case imul =>
    simp only [z_st] at hst
    split at hst
    · cases hst; exact zs_imul C hck kk
    · cases hst
  case iand =>
    simp only [z_st] at hst
    split at hst
    · cases hst; exact zs_iand C hck kk
    · cases hst
  case ior =>
    simp only [z_st] at hst
    split at hst
    · cases hst; exact zs_ior C hck kk
    · cases hst
  case ixor =>
    simp only [z_st] at hst
    split at hst
    · cases hst; exact zs_ixor C hck kk
    · cases hst
  case ishl =>
    simp only [z_st] at hst
    split at hst
    · cases hst; exact zs_ishl C hck kk
    · cases hst
  case ishr =>
    simp only [z_st] at hst
    split at hst
    · cases hst; exact zs_ishr C hck kk
    · cases hst
  case iushr =>
    simp only [z_st] at hst
    split at hst
    · cases hst; exact zs_iushr C hck kk
    · cases hst
  case ineg =>
    simp only [z_st] at hst
    split at hst
    · cases hst; exact zs_ineg C hck kk
    · cases hst
  case ladd =>
    simp only [z_st] at hst
    split at hst
    · cases hst; exact zs_ladd C hck kk
    · cases hst
  case lsub =>
    simp only [z_st] at hst
    split at hst
    · cases hst; exact zs_lsub C hck kk
    · cases hst
  case lmul =>
    simp only [z_st] at hst
    split at hst
    · cases hst; exact zs_lmul C hck kk
    · cases hst
  case land =>
    simp only [z_st] at hst
    split at hst
    · cases hst; exact zs_land C hck kk
    · cases hst
  case lor =>
    simp only [z_st] at hst
    split at hst
    · cases hst; exact zs_lor C hck kk
    · cases hst
  case lshl =>
    simp only [z_st] at hst
    split at hst
    · cases hst; exact zs_lshl C hck kk
    · cases hst
  case lcmp =>
    simp only [z_st] at hst
    split at hst
    · cases hst; exact zs_lcmp C hck kk
    · cases hst
  case i2l =>
    simp only [z_st] at hst
    split at hst
    · cases hst; exact zs_i2l C hck kk
    · cases hst
  case l2i =>
    simp only [z_st] at hst
    split at hst
    · cases hst; exact zs_l2i C hck kk
    · cases hst
  case i2b =>
    simp only [z_st] at hst
    split at hst
    · cases hst; exact zs_i2b C hck kk
    · cases hst
  case i2c =>
    simp only [z_st] at hst
    split at hst
    · cases hst; exact zs_i2c C hck kk
    · cases hst
  case idiv =>
    simp only [z_st] at hst
    split at hst
    · split at hst
      · cases hst
      · rename_i hb; cases hst; exact zs_idiv C hck hb kk
    · cases hst
  case irem =>
    simp only [z_st] at hst
    split at hst
    · split at hst
      · cases hst
      · rename_i hb; cases hst; exact zs_irem C hck hb kk
    · cases hst
  case ldiv =>
    simp only [z_st] at hst
    split at hst
    · split at hst
      · cases hst
      · rename_i hb; cases hst; exact zs_ldiv C hck hb kk
    · cases hst
  case lrem =>
    simp only [z_st] at hst
    split at hst
    · split at hst
      · cases hst
      · rename_i hb; cases hst; exact zs_lrem C hck hb kk
    · cases hst
  case iconst n =>
    simp only [z_st] at hst
    cases hst; exact zs_iconst C hck kk
  case goto_w n =>
    simp only [z_st] at hst
    cases hst; exact zs_goto_w C hck kk
  case ldc k =>
    simp only [z_st] at hst
    cases hst; exact zs_ldc C hck kk
  case aconst_null =>
    simp only [z_st] at hst
    cases hst; exact zs_aconst_null C hck kk
  case goto f =>
    simp only [z_st] at hst
    cases hst; exact zs_goto C hck kk
  case getstatic k =>
    simp only [z_st] at hst
    have hk : k = 0 ∨ k = 1 := by
      obtain ⟨o, len, hd, hh⟩ := z_ckd hck
      simp only [z_rel, Bool.and_eq_true, beq_iff_eq] at hh
      obtain ⟨-, hh⟩ := hh
      split at hh
      · simp only [Bool.and_eq_true, Bool.or_eq_true, beq_iff_eq] at hh
        rcases hh.2 with ⟨h, -⟩ | ⟨h, -⟩
        · exact Or.inl h
        · exact Or.inr h
      · cases hh
    rcases hk with rfl | rfl
    · cases hst; exact zs_getstatic0 C hck kk
    · cases hst; exact zs_getstatic1 C hck kk
  case iload k =>
    simp only [z_st] at hst
    split at hst
    · rename_i hl; cases hst; exact zs_iload C hck hl kk
    · cases hst
  case lload k =>
    simp only [z_st] at hst
    split at hst
    · rename_i hl; cases hst; exact zs_lload C hck hl kk
    · cases hst
  case aload k =>
    simp only [z_st] at hst
    split at hst
    · rename_i hl; cases hst; exact zs_aload C hck hl kk
    · rename_i hl; cases hst; exact zs_aloadn C hck hl kk
    · rename_i hl
      split at hst
      · cases hst
      · rename_i hv; cases hst; exact zs_aloadx C hck hl hv kk
    · cases hst
  case istore k =>
    simp only [z_st] at hst
    split at hst
    · split at hst
      · rename_i hk; cases hst; exact zs_istore C hck hk kk
      · cases hst
    · cases hst
  case lstore k =>
    simp only [z_st] at hst
    split at hst
    · split at hst
      · rename_i hk; cases hst; exact zs_lstore C hck hk kk
      · cases hst
    · cases hst
  case astore k =>
    simp only [z_st] at hst
    split at hst
    · split at hst
      · rename_i hk; cases hst; exact zs_astore C hck hk kk
      · cases hst
    · split at hst
      · rename_i hk; cases hst; exact zs_astoren C hck hk kk
      · cases hst
    · cases hst
  case iinc k n =>
    simp only [z_st] at hst
    split at hst
    · rename_i hl
      split at hst
      · rename_i hk; cases hst; exact zs_iinc C hck hl hk kk
      · cases hst
    · cases hst
  case dup =>
    simp only [z_st] at hst
    split at hst
    · cases hst; exact zs_dup C hck rfl kk
    · cases hst; exact zs_dup C hck rfl kk
    · cases hst
  case dup2 =>
    simp only [z_st] at hst
    split at hst
    · cases hst; exact zs_dup2 C hck rfl rfl kk
    · cases hst
  case pop =>
    simp only [z_st] at hst
    split at hst
    · cases hst; exact zs_pop C hck rfl kk
    · cases hst; exact zs_pop C hck rfl kk
    · cases hst; exact zs_pop C hck rfl kk
    · cases hst
  case monitorenter =>
    simp only [z_st] at hst
    split at hst
    · split at hst
      · rename_i hk; cases hst; exact zs_objinit C hck hrm hk kk
      · cases hst
    · cases hst
  case fneg =>
    simp only [z_st] at hst
    split at hst
    · split at hst
      · rename_i hk; cases hst; exact zs_min C hck hrm hr hk kk
      · cases hst
    · cases hst
  case ifCond cd f =>
    simp only [z_st] at hst
    split at hst
    · split at hst
      · rename_i hc; cases hst; exact zs_ifCond C hck (fun _ => kk) (fun h9 => by rw [hc] at h9; cases h9)
      · rename_i hc; cases hst; exact zs_ifCond C hck (fun h9 => absurd h9 hc) (fun _ => kk)
    · cases hst
  case if_icmp cd f =>
    simp only [z_st] at hst
    split at hst
    · split at hst
      · rename_i hc; cases hst; exact zs_if_icmp C hck (fun _ => kk) (fun h9 => by rw [hc] at h9; cases h9)
      · rename_i hc; cases hst; exact zs_if_icmp C hck (fun h9 => absurd h9 hc) (fun _ => kk)
    · cases hst
  case ifnull f =>
    simp only [z_st] at hst
    split at hst
    · cases hst; exact zs_ifnulln C hck kk
    · cases hst; exact zs_ifnullr C hck kk
    · cases hst
  case ifnonnull f =>
    simp only [z_st] at hst
    split at hst
    · cases hst; exact zs_ifnonnulln C hck kk
    · cases hst; exact zs_ifnonnullr C hck kk
    · cases hst
  case tableswitch d0 lo hi offs =>
    simp only [z_st] at hst
    split at hst
    · split at hst
      · rename_i h; cases hst; exact zs_tsw C hck (fun _ => kk) (fun o h9 _ => absurd h h9) (fun h9 => absurd h h9)
      · rename_i h
        split at hst
        · rename_i o1 ho; cases hst; exact zs_tsw C hck (fun h9 => absurd h9 h) (fun o' _ ho' => by rw [ho] at ho'; cases ho'; exact kk) (fun _ => ⟨o1, ho⟩)
        · cases hst
    · cases hst
  case getfield cl =>
    simp only [z_st] at hst
    split at hst
    · split at hst
      · rename_i hc; cases hst; exact zs_getI C hck hc.1 hc.2.1 hc.2.2 kk
      · cases hst
    · cases hst
  case instanceof cl =>
    simp only [z_st] at hst
    split at hst
    · split at hst
      · rename_i hc; cases hst; exact zs_getR C hck hc.1 hc.2.1 hc.2.2 kk
      · cases hst
    · cases hst
  case putfield cl =>
    simp only [z_st] at hst
    split at hst
    · split at hst
      · rename_i hc; cases hst; exact zs_putI C hck hc.1 hc.2.1 hc.2.2 kk
      · cases hst
    · cases hst
  case ldc_w cl =>
    simp only [z_st] at hst
    split at hst
    · split at hst
      · rename_i hc; cases hst; exact zs_putZ C hck hc.1 hc.2.1 hc.2.2.1 hc.2.2.2 kk
      · cases hst
    · cases hst
  case putstatic cl =>
    simp only [z_st] at hst
    split at hst
    · split at hst
      · rename_i hc; cases hst; exact zs_putR C hck hc.1 hc.2.1 hc.2.2 kk
      · cases hst
    · split at hst
      · rename_i hc; cases hst; exact zs_putN C hck hc.1 hc.2.1 hc.2.2 kk
      · cases hst
    · cases hst
  case fload k =>
    simp only [z_st] at hst
    have hk : k = 0 ∨ k = 1 := by
      obtain ⟨o, len, hd, hh⟩ := z_ckd hck
      simp only [z_rel, Bool.and_eq_true, beq_iff_eq] at hh
      obtain ⟨-, hh⟩ := hh
      split at hh
      · simp only [Bool.and_eq_true, Bool.or_eq_true, beq_iff_eq] at hh
        rcases hh.2 with ⟨h, -⟩ | ⟨h, -⟩
        · exact Or.inl h
        · exact Or.inr h
      · cases hh
    split at hst
    · split at hst
      · rename_i hq
        rcases hk with rfl | rfl
        · cases hst; exact zs_strv C hck hq kk
        · cases hst; exact zs_strc C hck hq kk
      · cases hst
    · cases hst
  case arraylength =>
    simp only [z_st] at hst
    split at hst
    · split at hst
      · rename_i hc; cases hst; exact zs_alen C hck hc.1 hc.2.1 hc.2.2 kk
      · cases hst
    · rename_i q S9
      split at hst
      · rename_i hq; subst hq; cases hst; exact zs_slen C hck kk
      · split at hst
        · rename_i hq
          obtain ⟨q', rfl⟩ : ∃ q', q = q' + 10 := ⟨q - 10, by omega⟩
          rw [Nat.add_sub_cancel] at hst
          cases hst; exact zs_blen C hck (by omega) kk
        · cases hst
    · cases hst
  case iaload =>
    simp only [z_st] at hst
    split at hst
    · split at hst
      · rename_i hc
        split at hst
        · rename_i hi; cases hst; exact zs_iald C hck hc.1 hc.2 hi kk
        · cases hst
      · cases hst
    · rename_i q S9
      split at hst
      · rename_i hq
        subst hq
        split at hst
        · rename_i hi; cases hst; exact zs_sld C hck hi kk
        · cases hst
      · cases hst
    · cases hst
  case baload =>
    simp only [z_st] at hst
    split at hst
    · split at hst
      · rename_i hc
        split at hst
        · rename_i hi
          cases hst
          rcases hc.2 with h9 | h9
          · exact zs_bald C hck hc.1 h9 hi kk
          · exact zs_zald C hck hc.1 h9 hi kk
        · cases hst
      · cases hst
    · rename_i i9 q S9
      split at hst
      · rename_i hq
        obtain ⟨q', rfl⟩ : ∃ q', q = q' + 10 := ⟨q - 10, by omega⟩
        rw [Nat.add_sub_cancel] at hst
        split at hst
        · rename_i hi; cases hst; exact zs_bldx C hck (by omega) hi kk
        · cases hst
      · cases hst
    · cases hst
  case caload =>
    simp only [z_st] at hst
    split at hst
    · split at hst
      · rename_i hc
        split at hst
        · rename_i hi; cases hst; exact zs_cald C hck hc.1 hc.2 hi kk
        · cases hst
      · cases hst
    · cases hst
  case laload =>
    simp only [z_st] at hst
    split at hst
    · split at hst
      · rename_i hc
        split at hst
        · rename_i hi; cases hst; exact zs_lald C hck hc.1 hc.2 hi kk
        · cases hst
      · cases hst
    · cases hst
  case aaload =>
    simp only [z_st] at hst
    split at hst
    · split at hst
      · rename_i hc
        split at hst
        · rename_i hi; cases hst; exact zs_aald C hck hc.1 rfl hc.2.1 hc.2.2 hi kk
        · cases hst
      · cases hst
    · cases hst
  case iastore =>
    simp only [z_st] at hst
    split at hst
    · split at hst
      · rename_i hc
        split at hst
        · rename_i hi; cases hst; exact zs_iast C hck hc.1 hc.2 hi kk
        · cases hst
      · cases hst
    · cases hst
  case castore =>
    simp only [z_st] at hst
    split at hst
    · split at hst
      · rename_i hc
        split at hst
        · rename_i hi; cases hst; exact zs_cast C hck hc.1 hc.2 hi kk
        · cases hst
      · cases hst
    · cases hst
  case lastore =>
    simp only [z_st] at hst
    split at hst
    · split at hst
      · rename_i hc
        split at hst
        · rename_i hi; cases hst; exact zs_last C hck hc.1 hc.2 hi kk
        · cases hst
      · cases hst
    · cases hst
  case aastore =>
    simp only [z_st] at hst
    split at hst
    · split at hst
      · rename_i hc
        split at hst
        · rename_i hi; cases hst; exact zs_aast C hck hc.1 hc.2.1 hc.2.2 hi kk
        · cases hst
      · cases hst
    · cases hst
  case bastore =>
    simp only [z_st] at hst
    split at hst
    · split at hst
      · rename_i hc
        split at hst
        · rename_i hi
          rcases hc.2 with h9 | h9
          · rw [if_pos h9] at hst
            cases hst; exact zs_bast C hck hc.1 h9 hi kk
          · rw [if_neg (by omega)] at hst
            cases hst; exact zs_zast C hck hc.1 h9 hi kk
        · cases hst
      · cases hst
    · cases hst
  case new cl =>
    simp only [z_st] at hst
    split at hst
    · rename_i hc; cases hst; exact zs_new C hck hn0 hr.1 hr.2 hc.2.2 kk
    · cases hst
  case newarray t =>
    simp only [z_st] at hst
    split at hst
    · split at hst
      · cases hst
      · rename_i hc
        split at hst
        · rename_i hc2
          have g1 := fun z => hc (Or.inl z)
          have g2 := Nat.not_lt.mp (fun z => hc (Or.inr (Or.inl z)))
          cases t
          case byte => cases hst; exact zs_newa_byte C hck hn0 hr.1 hr.2 g1 rfl g2 kk
          case char => cases hst; exact zs_newa_char C hck hn0 hr.1 hr.2 g1 rfl g2 kk
          case int => cases hst; exact zs_newa_int C hck hn0 hr.1 hr.2 g1 rfl g2 kk
          case long => cases hst; exact zs_newa_long C hck hn0 hr.1 hr.2 g1 rfl g2 kk
          case boolean => cases hst; exact zs_newa_boolean C hck hn0 hr.1 hr.2 g1 rfl g2 kk
          all_goals exact absurd (Or.inr (Or.inr rfl)) hc
        · cases hst
    · cases hst
  case anewarray kd =>
    simp only [z_st] at hst
    split at hst
    · split at hst
      · cases hst
      · rename_i hc
        split at hst
        · rename_i hc2
          have g1 := fun z => hc (Or.inl z)
          have g2 := Nat.not_lt.mp (fun z => hc (Or.inr z))
          cases hst
          exact zs_newq C hck hn0 hr.1 hr.2 g1 rfl g2 hc2.2.2.1 hc2.2.2.2 kk
        · cases hst
    · cases hst
  case monitorexit =>
    simp only [z_st] at hst
    split at hst
    · split at hst
      · rename_i hc; cases hst; exact zs_clone C hck hrm hn0 hr.1 hr.2 hc.1 hc.2.1 hc.2.2.2.2 kk
      · cases hst
    · cases hst
  case checkcast o0 =>
    simp only [z_st] at hst
    split at hst
    · split at hst
      · rename_i hc; cases hst; exact zs_castA C hck hc.1 hc.2 kk
      · cases hst
    · cases hst
  case swap =>
    simp only [z_st] at hst
    split at hst
    · split at hst
      · rename_i hc
        obtain ⟨c1, c2, c3, c4, c5, c6, c7, c8, c9, c10⟩ := hc
        cases hst
        exact zs_copy C hck hrm c1 c2 c3 c4 c5 c6 c7 c8 c9 c10 kk
      · cases hst
    · cases hst
  all_goals first
    | (simp only [z_st] at hst; cases hst; done)
    | (simp only [z_st] at hst; (repeat' (split at hst)) <;> cases hst; done)
end
