def wdV (k : Nat) : Int32 := if k = 0 then -1 else nI (k - 1)
theorem q_wdH {x : Nat × (Nat → Int32)} {d : Nat} {I : Nat → Nat → Int32} {J : Nat → Nat → Int64} {R : Nat → Nat → Option Nat} {G : zG} {b : Nat → Nat} {n q : Nat} (hR : Rs R) (hS : Sh G) (hT : TP I b n) (hx : RX I n q) (hqq : bk b n q = q) : zOk x (d + 2) 123 0 [.ref 51] [] (I, J, R, G) (fun v m => v = some (.int (wdV (whT b n 4 (.inr q)))) ∧ ∃ I', m = (I', J, R, G) ∧ RX I' n q ∧ LX I I') := by
  have ll : LX I I := LX.rfl
  refine k_aload f123_0 rfl ?_
  refine k_lconst (v := 1668245870) f123_1 rfl ?_
  refine k_callv (as := [.long (1668245870)]) (rest := []) f123_4 hS.o51 rfl rfl rfl rfl (q_isWl (w := [99, 111, 105, 110]) (by decide +kernel) hR hS hT hx hqq ⟨by decide, by decide, by decide⟩) ?_
  rintro _ _ ⟨rfl, I1, rfl, hx1, hl1⟩
  have hT1 := hl1.tp hT
  have ll1 := ll.trans hl1
  refine k_beq f123_7 (fun g0 => ?_) (fun g0 => ?_)
  · refine k_aload f123_12 rfl ?_
    refine k_lconst (v := 512970880104) f123_13 rfl ?_
    refine k_callv (as := [.long (512970880104)]) (rest := []) f123_16 hS.o51 rfl rfl rfl rfl (q_isWl (w := [119, 111, 114, 116, 104]) (by decide +kernel) hR hS hT1 hx1 hqq ⟨by decide, by decide, by decide⟩) ?_
    rintro _ _ ⟨rfl, I2, rfl, hx2, hl2⟩
    have hT2 := hl2.tp hT1
    have ll2 := ll1.trans hl2
    refine k_beq f123_19 (fun g1 => ?_) (fun g1 => ?_)
    · refine k_aload f123_24 rfl ?_
      refine k_lconst (v := 6383461) f123_25 rfl ?_
      refine k_callv (as := [.long (6383461)]) (rest := []) f123_28 hS.o51 rfl rfl rfl rfl (q_isWl (w := [97, 103, 101]) (by decide +kernel) hR hS hT2 hx2 hqq ⟨by decide, by decide, by decide⟩) ?_
      rintro _ _ ⟨rfl, I3, rfl, hx3, hl3⟩
      have hT3 := hl3.tp hT2
      have ll3 := ll2.trans hl3
      refine k_beq f123_31 (fun g2 => ?_) (fun g2 => ?_)
      · refine k_aload f123_36 rfl ?_
        refine k_lconst (v := 448311223411) f123_37 rfl ?_
        refine k_callv (as := [.long (448311223411)]) (rest := []) f123_40 hS.o51 rfl rfl rfl rfl (q_isWl (w := [104, 97, 110, 100, 115]) (by decide +kernel) hR hS hT3 hx3 hqq ⟨by decide, by decide, by decide⟩) ?_
        rintro _ _ ⟨rfl, I4, rfl, hx4, hl4⟩
        have hT4 := hl4.tp hT3
        have ll4 := ll3.trans hl4
        refine k_beq f123_43 (fun g3 => ?_) (fun g3 => ?_)
        · refine k_aload f123_48 rfl ?_
          refine k_lconst (v := 32497656931444581) f123_49 rfl ?_
          refine k_callv (as := [.long (32497656931444581)]) (rest := []) f123_52 hS.o51 rfl rfl rfl rfl (q_isWl (w := [115, 116, 114, 97, 110, 103, 101]) (by decide +kernel) hR hS hT4 hx4 hqq ⟨by decide, by decide, by decide⟩) ?_
          rintro _ _ ⟨rfl, I5, rfl, hx5, hl5⟩
          have hT5 := hl5.tp hT4
          have ll5 := ll4.trans hl5
          refine k_beq f123_55 (fun g4 => ?_) (fun g4 => ?_)
          · refine k_aload f123_60 rfl ?_
            refine k_lconst (v := 483006772069) f123_61 rfl ?_
            refine k_callv (as := [.long (483006772069)]) (rest := []) f123_64 hS.o51 rfl rfl rfl rfl (q_isWl (w := [112, 117, 114, 115, 101]) (by decide +kernel) hR hS hT5 hx5 hqq ⟨by decide, by decide, by decide⟩) ?_
            rintro _ _ ⟨rfl, I6, rfl, hx6, hl6⟩
            have hT6 := hl6.tp hT5
            have ll6 := ll5.trans hl6
            refine k_beq f123_67 (fun g5 => ?_) (fun g5 => ?_)
            · refine k_aload f123_72 rfl ?_
              refine k_lconst (v := 444150998386) f123_73 rfl ?_
              refine k_callv (as := [.long (444150998386)]) (rest := []) f123_76 hS.o51 rfl rfl rfl rfl (q_isWl (w := [103, 105, 118, 101, 114]) (by decide +kernel) hR hS hT6 hx6 hqq ⟨by decide, by decide, by decide⟩) ?_
              rintro _ _ ⟨rfl, I7, rfl, hx7, hl7⟩
              have hT7 := hl7.tp hT6
              have ll7 := ll6.trans hl7
              refine k_beq f123_79 (fun g6 => ?_) (fun g6 => ?_)
              · refine k_aload f123_85 rfl ?_
                refine k_lconst (v := 499850634610) f123_86 rfl ?_
                refine k_callv (as := [.long (499850634610)]) (rest := []) f123_89 hS.o51 rfl rfl rfl rfl (q_isWl (w := [116, 97, 107, 101, 114]) (by decide +kernel) hR hS hT7 hx7 hqq ⟨by decide, by decide, by decide⟩) ?_
                rintro _ _ ⟨rfl, I8, rfl, hx8, hl8⟩
                have hT8 := hl8.tp hT7
                have ll8 := ll7.trans hl8
                refine k_beq f123_92 (fun g7 => ?_) (fun g7 => ?_)
                · refine k_aload f123_100 rfl ?_
                  refine k_lconst (v := 6578553) f123_101 rfl ?_
                  refine k_callv (as := [.long (6578553)]) (rest := []) f123_104 hS.o51 rfl rfl rfl rfl (q_isWl (w := [100, 97, 121]) (by decide +kernel) hR hS hT8 hx8 hqq ⟨by decide, by decide, by decide⟩) ?_
                  rintro _ _ ⟨rfl, I9, rfl, hx9, hl9⟩
                  have hT9 := hl9.tp hT8
                  have ll9 := ll8.trans hl9
                  refine k_beq f123_107 (fun g8 => ?_) (fun g8 => ?_)
                  · refine k_iconst (v := (-1)) f123_115 rfl ?_
                    exact k_iret f123_116 rfl ⟨congrArg (fun t => some (Value.int t)) (by rw [wdV, wh_4, if_neg g0, if_neg g1, if_neg g2, if_neg g3, if_neg g4, if_neg g5, if_neg g6, if_neg g7, if_neg g8]; decide), I9, rfl, hx9, ll9⟩
                  · refine k_iconst (v := 8) f123_110 rfl ?_
                    refine k_goto f123_112 ?_
                    exact k_iret f123_116 rfl ⟨congrArg (fun t => some (Value.int t)) (by rw [wdV, wh_4, if_neg g0, if_neg g1, if_neg g2, if_neg g3, if_neg g4, if_neg g5, if_neg g6, if_neg g7, if_pos g8]; decide), I9, rfl, hx9, ll9⟩
                · refine k_iconst (v := 7) f123_95 rfl ?_
                  refine k_goto f123_97 ?_
                  exact k_iret f123_116 rfl ⟨congrArg (fun t => some (Value.int t)) (by rw [wdV, wh_4, if_neg g0, if_neg g1, if_neg g2, if_neg g3, if_neg g4, if_neg g5, if_neg g6, if_pos g7]; decide), I8, rfl, hx8, ll8⟩
              · refine k_iconst (v := 6) f123_82 rfl ?_
                exact k_iret f123_84 rfl ⟨congrArg (fun t => some (Value.int t)) (by rw [wdV, wh_4, if_neg g0, if_neg g1, if_neg g2, if_neg g3, if_neg g4, if_neg g5, if_pos g6]; decide), I7, rfl, hx7, ll7⟩
            · refine k_iconst (v := 5) f123_70 rfl ?_
              exact k_iret f123_71 rfl ⟨congrArg (fun t => some (Value.int t)) (by rw [wdV, wh_4, if_neg g0, if_neg g1, if_neg g2, if_neg g3, if_neg g4, if_pos g5]; decide), I6, rfl, hx6, ll6⟩
          · refine k_iconst (v := 4) f123_58 rfl ?_
            exact k_iret f123_59 rfl ⟨congrArg (fun t => some (Value.int t)) (by rw [wdV, wh_4, if_neg g0, if_neg g1, if_neg g2, if_neg g3, if_pos g4]; decide), I5, rfl, hx5, ll5⟩
        · refine k_iconst (v := 3) f123_46 rfl ?_
          exact k_iret f123_47 rfl ⟨congrArg (fun t => some (Value.int t)) (by rw [wdV, wh_4, if_neg g0, if_neg g1, if_neg g2, if_pos g3]; decide), I4, rfl, hx4, ll4⟩
      · refine k_iconst (v := 2) f123_34 rfl ?_
        exact k_iret f123_35 rfl ⟨congrArg (fun t => some (Value.int t)) (by rw [wdV, wh_4, if_neg g0, if_neg g1, if_pos g2]; decide), I3, rfl, hx3, ll3⟩
    · refine k_iconst (v := 1) f123_22 rfl ?_
      exact k_iret f123_23 rfl ⟨congrArg (fun t => some (Value.int t)) (by rw [wdV, wh_4, if_neg g0, if_pos g1]; decide), I2, rfl, hx2, ll2⟩
  · refine k_iconst (v := 0) f123_10 rfl ?_
    exact k_iret f123_11 rfl ⟨congrArg (fun t => some (Value.int t)) (by rw [wdV, wh_4, if_pos g0]; decide), I1, rfl, hx1, ll1⟩
