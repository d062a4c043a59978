def z_yc (Y : Nat) : Prop := Cond.code (z_yy Y) (z_cc Y) (z_mx Y) (z_rt Y) ∈ lw_tbl
theorem z_yc0 : ∀ a, a < 0 → z_yc a := lt_0
set_option maxRecDepth 100000 in
theorem zy_0 : z_yc 0 := List.mem_of_getElem? (i := 370) rfl
theorem z_yc1 : ∀ a, a < 1 → z_yc a := lt_s z_yc0 zy_0
set_option maxRecDepth 100000 in
theorem zy_1 : z_yc 1 := List.mem_of_getElem? (i := 771) rfl
theorem z_yc2 : ∀ a, a < 2 → z_yc a := lt_s z_yc1 zy_1
set_option maxRecDepth 100000 in
theorem zy_2 : z_yc 2 := List.mem_of_getElem? (i := 822) rfl
theorem z_yc3 : ∀ a, a < 3 → z_yc a := lt_s z_yc2 zy_2
set_option maxRecDepth 100000 in
theorem zy_3 : z_yc 3 := List.mem_of_getElem? (i := 775) rfl
theorem z_yc4 : ∀ a, a < 4 → z_yc a := lt_s z_yc3 zy_3
set_option maxRecDepth 100000 in
theorem zy_4 : z_yc 4 := List.mem_of_getElem? (i := 783) rfl
theorem z_yc5 : ∀ a, a < 5 → z_yc a := lt_s z_yc4 zy_4
set_option maxRecDepth 100000 in
theorem zy_5 : z_yc 5 := List.mem_of_getElem? (i := 788) rfl
theorem z_yc6 : ∀ a, a < 6 → z_yc a := lt_s z_yc5 zy_5
set_option maxRecDepth 100000 in
theorem zy_6 : z_yc 6 := List.mem_of_getElem? (i := 806) rfl
theorem z_yc7 : ∀ a, a < 7 → z_yc a := lt_s z_yc6 zy_6
set_option maxRecDepth 100000 in
theorem zy_7 : z_yc 7 := List.mem_of_getElem? (i := 809) rfl
theorem z_yc8 : ∀ a, a < 8 → z_yc a := lt_s z_yc7 zy_7
set_option maxRecDepth 100000 in
theorem zy_8 : z_yc 8 := List.mem_of_getElem? (i := 286) rfl
theorem z_yc9 : ∀ a, a < 9 → z_yc a := lt_s z_yc8 zy_8
set_option maxRecDepth 100000 in
theorem zy_9 : z_yc 9 := List.mem_of_getElem? (i := 614) rfl
theorem z_yc10 : ∀ a, a < 10 → z_yc a := lt_s z_yc9 zy_9
set_option maxRecDepth 100000 in
theorem zy_10 : z_yc 10 := List.mem_of_getElem? (i := 884) rfl
theorem z_yc11 : ∀ a, a < 11 → z_yc a := lt_s z_yc10 zy_10
set_option maxRecDepth 100000 in
theorem zy_11 : z_yc 11 := List.mem_of_getElem? (i := 618) rfl
theorem z_yc12 : ∀ a, a < 12 → z_yc a := lt_s z_yc11 zy_11
set_option maxRecDepth 100000 in
theorem zy_12 : z_yc 12 := List.mem_of_getElem? (i := 813) rfl
theorem z_yc13 : ∀ a, a < 13 → z_yc a := lt_s z_yc12 zy_12
set_option maxRecDepth 100000 in
theorem zy_13 : z_yc 13 := List.mem_of_getElem? (i := 384) rfl
theorem z_yc14 : ∀ a, a < 14 → z_yc a := lt_s z_yc13 zy_13
set_option maxRecDepth 100000 in
theorem zy_14 : z_yc 14 := List.mem_of_getElem? (i := 843) rfl
theorem z_yc15 : ∀ a, a < 15 → z_yc a := lt_s z_yc14 zy_14
set_option maxRecDepth 100000 in
theorem zy_15 : z_yc 15 := List.mem_of_getElem? (i := 855) rfl
theorem z_yc16 : ∀ a, a < 16 → z_yc a := lt_s z_yc15 zy_15
set_option maxRecDepth 100000 in
theorem zy_16 : z_yc 16 := List.mem_of_getElem? (i := 859) rfl
theorem z_yc17 : ∀ a, a < 17 → z_yc a := lt_s z_yc16 zy_16
set_option maxRecDepth 100000 in
theorem zy_17 : z_yc 17 := List.mem_of_getElem? (i := 864) rfl
theorem z_yc18 : ∀ a, a < 18 → z_yc a := lt_s z_yc17 zy_17
set_option maxRecDepth 100000 in
theorem zy_18 : z_yc 18 := List.mem_of_getElem? (i := 124) rfl
theorem z_yc19 : ∀ a, a < 19 → z_yc a := lt_s z_yc18 zy_18
set_option maxRecDepth 100000 in
theorem zy_19 : z_yc 19 := List.mem_of_getElem? (i := 590) rfl
theorem z_yc20 : ∀ a, a < 20 → z_yc a := lt_s z_yc19 zy_19
set_option maxRecDepth 100000 in
theorem zy_20 : z_yc 20 := List.mem_of_getElem? (i := 598) rfl
theorem z_yc21 : ∀ a, a < 21 → z_yc a := lt_s z_yc20 zy_20
set_option maxRecDepth 100000 in
theorem zy_21 : z_yc 21 := List.mem_of_getElem? (i := 700) rfl
theorem z_yc22 : ∀ a, a < 22 → z_yc a := lt_s z_yc21 zy_21
set_option maxRecDepth 100000 in
theorem zy_22 : z_yc 22 := List.mem_of_getElem? (i := 802) rfl
theorem z_yc23 : ∀ a, a < 23 → z_yc a := lt_s z_yc22 zy_22
set_option maxRecDepth 100000 in
theorem zy_23 : z_yc 23 := List.mem_of_getElem? (i := 249) rfl
theorem z_yc24 : ∀ a, a < 24 → z_yc a := lt_s z_yc23 zy_23
set_option maxRecDepth 100000 in
theorem zy_24 : z_yc 24 := List.mem_of_getElem? (i := 627) rfl
theorem z_yc25 : ∀ a, a < 25 → z_yc a := lt_s z_yc24 zy_24
set_option maxRecDepth 100000 in
theorem zy_25 : z_yc 25 := List.mem_of_getElem? (i := 636) rfl
theorem z_yc26 : ∀ a, a < 26 → z_yc a := lt_s z_yc25 zy_25
set_option maxRecDepth 100000 in
theorem zy_26 : z_yc 26 := List.mem_of_getElem? (i := 640) rfl
theorem z_yc27 : ∀ a, a < 27 → z_yc a := lt_s z_yc26 zy_26
set_option maxRecDepth 100000 in
theorem zy_27 : z_yc 27 := List.mem_of_getElem? (i := 650) rfl
theorem z_yc28 : ∀ a, a < 28 → z_yc a := lt_s z_yc27 zy_27
set_option maxRecDepth 100000 in
theorem zy_28 : z_yc 28 := List.mem_of_getElem? (i := 654) rfl
theorem z_yc29 : ∀ a, a < 29 → z_yc a := lt_s z_yc28 zy_28
set_option maxRecDepth 100000 in
theorem zy_29 : z_yc 29 := List.mem_of_getElem? (i := 660) rfl
theorem z_yc30 : ∀ a, a < 30 → z_yc a := lt_s z_yc29 zy_29
set_option maxRecDepth 100000 in
theorem zy_30 : z_yc 30 := List.mem_of_getElem? (i := 676) rfl
theorem z_yc31 : ∀ a, a < 31 → z_yc a := lt_s z_yc30 zy_30
set_option maxRecDepth 100000 in
theorem zy_31 : z_yc 31 := List.mem_of_getElem? (i := 668) rfl
theorem z_yc32 : ∀ a, a < 32 → z_yc a := lt_s z_yc31 zy_31
set_option maxRecDepth 100000 in
theorem zy_32 : z_yc 32 := List.mem_of_getElem? (i := 672) rfl
theorem z_yc33 : ∀ a, a < 33 → z_yc a := lt_s z_yc32 zy_32
set_option maxRecDepth 100000 in
theorem zy_33 : z_yc 33 := List.mem_of_getElem? (i := 664) rfl
theorem z_yc34 : ∀ a, a < 34 → z_yc a := lt_s z_yc33 zy_33
set_option maxRecDepth 100000 in
theorem zy_34 : z_yc 34 := List.mem_of_getElem? (i := 279) rfl
theorem z_yc35 : ∀ a, a < 35 → z_yc a := lt_s z_yc34 zy_34
set_option maxRecDepth 100000 in
theorem zy_35 : z_yc 35 := List.mem_of_getElem? (i := 610) rfl
theorem z_yc36 : ∀ a, a < 36 → z_yc a := lt_s z_yc35 zy_35
set_option maxRecDepth 100000 in
theorem zy_36 : z_yc 36 := List.mem_of_getElem? (i := 880) rfl
theorem z_yc37 : ∀ a, a < 37 → z_yc a := lt_s z_yc36 zy_36
set_option maxRecDepth 100000 in
theorem zy_37 : z_yc 37 := List.mem_of_getElem? (i := 731) rfl
theorem z_yc38 : ∀ a, a < 38 → z_yc a := lt_s z_yc37 zy_37
set_option maxRecDepth 100000 in
theorem zy_38 : z_yc 38 := List.mem_of_getElem? (i := 888) rfl
theorem z_yc39 : ∀ a, a < 39 → z_yc a := lt_s z_yc38 zy_38
set_option maxRecDepth 100000 in
theorem zy_39 : z_yc 39 := List.mem_of_getElem? (i := 751) rfl
theorem z_yc40 : ∀ a, a < 40 → z_yc a := lt_s z_yc39 zy_39
set_option maxRecDepth 100000 in
theorem zy_40 : z_yc 40 := List.mem_of_getElem? (i := 779) rfl
theorem z_yc41 : ∀ a, a < 41 → z_yc a := lt_s z_yc40 zy_40
set_option maxRecDepth 100000 in
theorem zy_41 : z_yc 41 := List.mem_of_getElem? (i := 755) rfl
theorem z_yc42 : ∀ a, a < 42 → z_yc a := lt_s z_yc41 zy_41
set_option maxRecDepth 100000 in
theorem zy_42 : z_yc 42 := List.mem_of_getElem? (i := 760) rfl
theorem z_yc43 : ∀ a, a < 43 → z_yc a := lt_s z_yc42 zy_42
set_option maxRecDepth 100000 in
theorem zy_43 : z_yc 43 := List.mem_of_getElem? (i := 998) rfl
theorem z_yc44 : ∀ a, a < 44 → z_yc a := lt_s z_yc43 zy_43
set_option maxRecDepth 100000 in
theorem zy_44 : z_yc 44 := List.mem_of_getElem? (i := 826) rfl
theorem z_yc45 : ∀ a, a < 45 → z_yc a := lt_s z_yc44 zy_44
set_option maxRecDepth 100000 in
theorem zy_45 : z_yc 45 := List.mem_of_getElem? (i := 847) rfl
theorem z_yc46 : ∀ a, a < 46 → z_yc a := lt_s z_yc45 zy_45
set_option maxRecDepth 100000 in
theorem zy_46 : z_yc 46 := List.mem_of_getElem? (i := 195) rfl
theorem z_yc47 : ∀ a, a < 47 → z_yc a := lt_s z_yc46 zy_46
set_option maxRecDepth 100000 in
theorem zy_47 : z_yc 47 := List.mem_of_getElem? (i := 490) rfl
theorem z_yc48 : ∀ a, a < 48 → z_yc a := lt_s z_yc47 zy_47
set_option maxRecDepth 100000 in
theorem zy_48 : z_yc 48 := List.mem_of_getElem? (i := 508) rfl
theorem z_yc49 : ∀ a, a < 49 → z_yc a := lt_s z_yc48 zy_48
set_option maxRecDepth 100000 in
theorem zy_49 : z_yc 49 := List.mem_of_getElem? (i := 512) rfl
theorem z_yc50 : ∀ a, a < 50 → z_yc a := lt_s z_yc49 zy_49
set_option maxRecDepth 100000 in
theorem zy_50 : z_yc 50 := List.mem_of_getElem? (i := 606) rfl
theorem z_yc51 : ∀ a, a < 51 → z_yc a := lt_s z_yc50 zy_50
set_option maxRecDepth 100000 in
theorem zy_51 : z_yc 51 := List.mem_of_getElem? (i := 582) rfl
theorem z_yc52 : ∀ a, a < 52 → z_yc a := lt_s z_yc51 zy_51
set_option maxRecDepth 100000 in
theorem zy_52 : z_yc 52 := List.mem_of_getElem? (i := 602) rfl
theorem z_yc53 : ∀ a, a < 53 → z_yc a := lt_s z_yc52 zy_52
set_option maxRecDepth 100000 in
theorem zy_53 : z_yc 53 := List.mem_of_getElem? (i := 645) rfl
theorem z_yc54 : ∀ a, a < 54 → z_yc a := lt_s z_yc53 zy_53
set_option maxRecDepth 100000 in
theorem zy_54 : z_yc 54 := List.mem_of_getElem? (i := 521) rfl
theorem z_yc55 : ∀ a, a < 55 → z_yc a := lt_s z_yc54 zy_54
set_option maxRecDepth 100000 in
theorem zy_55 : z_yc 55 := List.mem_of_getElem? (i := 573) rfl
theorem z_yc56 : ∀ a, a < 56 → z_yc a := lt_s z_yc55 zy_55
set_option maxRecDepth 100000 in
theorem zy_56 : z_yc 56 := List.mem_of_getElem? (i := 233) rfl
theorem z_yc57 : ∀ a, a < 57 → z_yc a := lt_s z_yc56 zy_56
set_option maxRecDepth 100000 in
theorem zy_57 : z_yc 57 := List.mem_of_getElem? (i := 502) rfl
theorem z_yc58 : ∀ a, a < 58 → z_yc a := lt_s z_yc57 zy_57
set_option maxRecDepth 100000 in
theorem zy_58 : z_yc 58 := List.mem_of_getElem? (i := 516) rfl
theorem z_yc59 : ∀ a, a < 59 → z_yc a := lt_s z_yc58 zy_58
set_option maxRecDepth 100000 in
theorem zy_59 : z_yc 59 := List.mem_of_getElem? (i := 586) rfl
theorem z_yc60 : ∀ a, a < 60 → z_yc a := lt_s z_yc59 zy_59
set_option maxRecDepth 100000 in
theorem zy_60 : z_yc 60 := List.mem_of_getElem? (i := 594) rfl
theorem z_yc61 : ∀ a, a < 61 → z_yc a := lt_s z_yc60 zy_60
set_option maxRecDepth 100000 in
theorem zy_61 : z_yc 61 := List.mem_of_getElem? (i := 578) rfl
theorem z_yc62 : ∀ a, a < 62 → z_yc a := lt_s z_yc61 zy_61
set_option maxRecDepth 100000 in
theorem zy_62 : z_yc 62 := List.mem_of_getElem? (i := 397) rfl
theorem z_yc63 : ∀ a, a < 63 → z_yc a := lt_s z_yc62 zy_62
set_option maxRecDepth 100000 in
theorem zy_63 : z_yc 63 := List.mem_of_getElem? (i := 900) rfl
theorem z_yc64 : ∀ a, a < 64 → z_yc a := lt_s z_yc63 zy_63
set_option maxRecDepth 100000 in
theorem zy_64 : z_yc 64 := List.mem_of_getElem? (i := 904) rfl
theorem z_yc65 : ∀ a, a < 65 → z_yc a := lt_s z_yc64 zy_64
set_option maxRecDepth 100000 in
theorem zy_65 : z_yc 65 := List.mem_of_getElem? (i := 917) rfl
theorem z_yc66 : ∀ a, a < 66 → z_yc a := lt_s z_yc65 zy_65
set_option maxRecDepth 100000 in
theorem zy_66 : z_yc 66 := List.mem_of_getElem? (i := 908) rfl
theorem z_yc67 : ∀ a, a < 67 → z_yc a := lt_s z_yc66 zy_66
set_option maxRecDepth 100000 in
theorem zy_67 : z_yc 67 := List.mem_of_getElem? (i := 942) rfl
theorem z_yc68 : ∀ a, a < 68 → z_yc a := lt_s z_yc67 zy_67
set_option maxRecDepth 100000 in
theorem zy_68 : z_yc 68 := List.mem_of_getElem? (i := 922) rfl
theorem z_yc69 : ∀ a, a < 69 → z_yc a := lt_s z_yc68 zy_68
set_option maxRecDepth 100000 in
theorem zy_69 : z_yc 69 := List.mem_of_getElem? (i := 930) rfl
theorem z_yc70 : ∀ a, a < 70 → z_yc a := lt_s z_yc69 zy_69
set_option maxRecDepth 100000 in
theorem zy_70 : z_yc 70 := List.mem_of_getElem? (i := 116) rfl
theorem z_yc71 : ∀ a, a < 71 → z_yc a := lt_s z_yc70 zy_70
set_option maxRecDepth 100000 in
theorem zy_71 : z_yc 71 := List.mem_of_getElem? (i := 486) rfl
theorem z_yc72 : ∀ a, a < 72 → z_yc a := lt_s z_yc71 zy_71
set_option maxRecDepth 100000 in
theorem zy_72 : z_yc 72 := List.mem_of_getElem? (i := 494) rfl
theorem z_yc73 : ∀ a, a < 73 → z_yc a := lt_s z_yc72 zy_72
set_option maxRecDepth 100000 in
theorem zy_73 : z_yc 73 := List.mem_of_getElem? (i := 498) rfl
theorem z_yc74 : ∀ a, a < 74 → z_yc a := lt_s z_yc73 zy_73
set_option maxRecDepth 100000 in
theorem zy_74 : z_yc 74 := List.mem_of_getElem? (i := 623) rfl
theorem z_yc75 : ∀ a, a < 75 → z_yc a := lt_s z_yc74 zy_74
set_option maxRecDepth 100000 in
theorem zy_75 : z_yc 75 := List.mem_of_getElem? (i := 715) rfl
theorem z_yc76 : ∀ a, a < 76 → z_yc a := lt_s z_yc75 zy_75
set_option maxRecDepth 100000 in
theorem zy_76 : z_yc 76 := List.mem_of_getElem? (i := 723) rfl
theorem z_yc77 : ∀ a, a < 77 → z_yc a := lt_s z_yc76 zy_76
set_option maxRecDepth 100000 in
theorem zy_77 : z_yc 77 := List.mem_of_getElem? (i := 735) rfl
theorem z_yc78 : ∀ a, a < 78 → z_yc a := lt_s z_yc77 zy_77
set_option maxRecDepth 100000 in
theorem zy_78 : z_yc 78 := List.mem_of_getElem? (i := 743) rfl
theorem z_yc79 : ∀ a, a < 79 → z_yc a := lt_s z_yc78 zy_78
set_option maxRecDepth 100000 in
theorem zy_79 : z_yc 79 := List.mem_of_getElem? (i := 764) rfl
theorem z_yc80 : ∀ a, a < 80 → z_yc a := lt_s z_yc79 zy_79
set_option maxRecDepth 100000 in
theorem zy_80 : z_yc 80 := List.mem_of_getElem? (i := 818) rfl
theorem z_yc81 : ∀ a, a < 81 → z_yc a := lt_s z_yc80 zy_80
set_option maxRecDepth 100000 in
theorem zy_81 : z_yc 81 := List.mem_of_getElem? (i := 831) rfl
theorem z_yc82 : ∀ a, a < 82 → z_yc a := lt_s z_yc81 zy_81
set_option maxRecDepth 100000 in
theorem zy_82 : z_yc 82 := List.mem_of_getElem? (i := 839) rfl
theorem z_yc83 : ∀ a, a < 83 → z_yc a := lt_s z_yc82 zy_82
set_option maxRecDepth 100000 in
theorem zy_83 : z_yc 83 := List.mem_of_getElem? (i := 876) rfl
theorem z_yc84 : ∀ a, a < 84 → z_yc a := lt_s z_yc83 zy_83
set_option maxRecDepth 100000 in
theorem zy_84 : z_yc 84 := List.mem_of_getElem? (i := 892) rfl
theorem z_yc85 : ∀ a, a < 85 → z_yc a := lt_s z_yc84 zy_84
set_option maxRecDepth 100000 in
theorem zy_85 : z_yc 85 := List.mem_of_getElem? (i := 926) rfl
theorem z_yc86 : ∀ a, a < 86 → z_yc a := lt_s z_yc85 zy_85
set_option maxRecDepth 100000 in
theorem zy_86 : z_yc 86 := List.mem_of_getElem? (i := 938) rfl
theorem z_yc87 : ∀ a, a < 87 → z_yc a := lt_s z_yc86 zy_86
set_option maxRecDepth 100000 in
theorem zy_87 : z_yc 87 := List.mem_of_getElem? (i := 947) rfl
theorem z_yc88 : ∀ a, a < 88 → z_yc a := lt_s z_yc87 zy_87
set_option maxRecDepth 100000 in
theorem zy_88 : z_yc 88 := List.mem_of_getElem? (i := 956) rfl
theorem z_yc89 : ∀ a, a < 89 → z_yc a := lt_s z_yc88 zy_88
set_option maxRecDepth 100000 in
theorem zy_89 : z_yc 89 := List.mem_of_getElem? (i := 960) rfl
theorem z_yc90 : ∀ a, a < 90 → z_yc a := lt_s z_yc89 zy_89
set_option maxRecDepth 100000 in
theorem zy_90 : z_yc 90 := List.mem_of_getElem? (i := 968) rfl
theorem z_yc91 : ∀ a, a < 91 → z_yc a := lt_s z_yc90 zy_90
set_option maxRecDepth 100000 in
theorem zy_91 : z_yc 91 := List.mem_of_getElem? (i := 973) rfl
theorem z_yc92 : ∀ a, a < 92 → z_yc a := lt_s z_yc91 zy_91
set_option maxRecDepth 100000 in
theorem zy_92 : z_yc 92 := List.mem_of_getElem? (i := 977) rfl
theorem z_yc93 : ∀ a, a < 93 → z_yc a := lt_s z_yc92 zy_92
set_option maxRecDepth 100000 in
theorem zy_93 : z_yc 93 := List.mem_of_getElem? (i := 986) rfl
theorem z_yc94 : ∀ a, a < 94 → z_yc a := lt_s z_yc93 zy_93
set_option maxRecDepth 100000 in
theorem zy_94 : z_yc 94 := List.mem_of_getElem? (i := 990) rfl
theorem z_yc95 : ∀ a, a < 95 → z_yc a := lt_s z_yc94 zy_94
set_option maxRecDepth 100000 in
theorem zy_95 : z_yc 95 := List.mem_of_getElem? (i := 994) rfl
theorem z_yc96 : ∀ a, a < 96 → z_yc a := lt_s z_yc95 zy_95
set_option maxRecDepth 100000 in
theorem zy_96 : z_yc 96 := List.mem_of_getElem? (i := 1002) rfl
theorem z_yc97 : ∀ a, a < 97 → z_yc a := lt_s z_yc96 zy_96
set_option maxRecDepth 100000 in
theorem zy_97 : z_yc 97 := List.mem_of_getElem? (i := 1006) rfl
theorem z_yc98 : ∀ a, a < 98 → z_yc a := lt_s z_yc97 zy_97
set_option maxRecDepth 100000 in
theorem zy_98 : z_yc 98 := List.mem_of_getElem? (i := 767) rfl
theorem z_yc99 : ∀ a, a < 99 → z_yc a := lt_s z_yc98 zy_98
set_option maxRecDepth 100000 in
theorem zy_99 : z_yc 99 := List.mem_of_getElem? (i := 835) rfl
theorem z_yc100 : ∀ a, a < 100 → z_yc a := lt_s z_yc99 zy_99
set_option maxRecDepth 100000 in
theorem zy_100 : z_yc 100 := List.mem_of_getElem? (i := 747) rfl
theorem z_yc101 : ∀ a, a < 101 → z_yc a := lt_s z_yc100 zy_100
set_option maxRecDepth 100000 in
theorem zy_101 : z_yc 101 := List.mem_of_getElem? (i := 727) rfl
theorem z_yc102 : ∀ a, a < 102 → z_yc a := lt_s z_yc101 zy_101
set_option maxRecDepth 100000 in
theorem zy_102 : z_yc 102 := List.mem_of_getElem? (i := 739) rfl
theorem z_yc103 : ∀ a, a < 103 → z_yc a := lt_s z_yc102 zy_102
set_option maxRecDepth 100000 in
theorem zy_103 : z_yc 103 := List.mem_of_getElem? (i := 719) rfl
theorem z_yc104 : ∀ a, a < 104 → z_yc a := lt_s z_yc103 zy_103
set_option maxRecDepth 100000 in
theorem zy_104 : z_yc 104 := List.mem_of_getElem? (i := 798) rfl
theorem z_yc105 : ∀ a, a < 105 → z_yc a := lt_s z_yc104 zy_104
set_option maxRecDepth 100000 in
theorem zy_105 : z_yc 105 := List.mem_of_getElem? (i := 896) rfl
theorem z_yc106 : ∀ a, a < 106 → z_yc a := lt_s z_yc105 zy_105
set_option maxRecDepth 100000 in
theorem zy_106 : z_yc 106 := List.mem_of_getElem? (i := 952) rfl
theorem z_yc107 : ∀ a, a < 107 → z_yc a := lt_s z_yc106 zy_106
set_option maxRecDepth 100000 in
theorem zy_107 : z_yc 107 := List.mem_of_getElem? (i := 964) rfl
theorem z_yc108 : ∀ a, a < 108 → z_yc a := lt_s z_yc107 zy_107
set_option maxRecDepth 100000 in
theorem zy_108 : z_yc 108 := List.mem_of_getElem? (i := 982) rfl
theorem z_yc109 : ∀ a, a < 109 → z_yc a := lt_s z_yc108 zy_108
set_option maxRecDepth 100000 in
theorem zy_109 : z_yc 109 := List.mem_of_getElem? (i := 1011) rfl
theorem z_yc110 : ∀ a, a < 110 → z_yc a := lt_s z_yc109 zy_109
set_option maxRecDepth 100000 in
theorem zy_110 : z_yc 110 := List.mem_of_getElem? (i := 1204) rfl
theorem z_yc111 : ∀ a, a < 111 → z_yc a := lt_s z_yc110 zy_110
set_option maxRecDepth 100000 in
theorem zy_111 : z_yc 111 := List.mem_of_getElem? (i := 1352) rfl
theorem z_yc112 : ∀ a, a < 112 → z_yc a := lt_s z_yc111 zy_111
set_option maxRecDepth 100000 in
theorem zy_112 : z_yc 112 := List.mem_of_getElem? (i := 1363) rfl
theorem z_yc113 : ∀ a, a < 113 → z_yc a := lt_s z_yc112 zy_112
set_option maxRecDepth 100000 in
theorem zy_113 : z_yc 113 := List.mem_of_getElem? (i := 1138) rfl
theorem z_yc114 : ∀ a, a < 114 → z_yc a := lt_s z_yc113 zy_113
set_option maxRecDepth 100000 in
theorem zy_114 : z_yc 114 := List.mem_of_getElem? (i := 1134) rfl
theorem z_yc115 : ∀ a, a < 115 → z_yc a := lt_s z_yc114 zy_114
set_option maxRecDepth 100000 in
theorem zy_115 : z_yc 115 := List.mem_of_getElem? (i := 1142) rfl
theorem z_yc116 : ∀ a, a < 116 → z_yc a := lt_s z_yc115 zy_115
set_option maxRecDepth 100000 in
theorem zy_116 : z_yc 116 := List.mem_of_getElem? (i := 1181) rfl
theorem z_yc117 : ∀ a, a < 117 → z_yc a := lt_s z_yc116 zy_116
set_option maxRecDepth 100000 in
theorem zy_117 : z_yc 117 := List.mem_of_getElem? (i := 1158) rfl
theorem z_yc118 : ∀ a, a < 118 → z_yc a := lt_s z_yc117 zy_117
set_option maxRecDepth 100000 in
theorem zy_118 : z_yc 118 := List.mem_of_getElem? (i := 1201) rfl
theorem z_yc119 : ∀ a, a < 119 → z_yc a := lt_s z_yc118 zy_118
set_option maxRecDepth 100000 in
theorem zy_119 : z_yc 119 := List.mem_of_getElem? (i := 1167) rfl
theorem z_yc120 : ∀ a, a < 120 → z_yc a := lt_s z_yc119 zy_119
set_option maxRecDepth 100000 in
theorem zy_120 : z_yc 120 := List.mem_of_getElem? (i := 1163) rfl
theorem z_yc121 : ∀ a, a < 121 → z_yc a := lt_s z_yc120 zy_120
set_option maxRecDepth 100000 in
theorem zy_121 : z_yc 121 := List.mem_of_getElem? (i := 1193) rfl
theorem z_yc122 : ∀ a, a < 122 → z_yc a := lt_s z_yc121 zy_121
set_option maxRecDepth 100000 in
theorem zy_122 : z_yc 122 := List.mem_of_getElem? (i := 1197) rfl
theorem z_yc123 : ∀ a, a < 123 → z_yc a := lt_s z_yc122 zy_122
set_option maxRecDepth 100000 in
theorem zy_123 : z_yc 123 := List.mem_of_getElem? (i := 1262) rfl
theorem z_yc124 : ∀ a, a < 124 → z_yc a := lt_s z_yc123 zy_123
set_option maxRecDepth 100000 in
theorem zy_124 : z_yc 124 := List.mem_of_getElem? (i := 1258) rfl
theorem z_yc125 : ∀ a, a < 125 → z_yc a := lt_s z_yc124 zy_124
set_option maxRecDepth 100000 in
theorem zy_125 : z_yc 125 := List.mem_of_getElem? (i := 1254) rfl
theorem z_yc126 : ∀ a, a < 126 → z_yc a := lt_s z_yc125 zy_125
set_option maxRecDepth 100000 in
theorem zy_126 : z_yc 126 := List.mem_of_getElem? (i := 1233) rfl
theorem z_yc127 : ∀ a, a < 127 → z_yc a := lt_s z_yc126 zy_126
set_option maxRecDepth 100000 in
theorem zy_127 : z_yc 127 := List.mem_of_getElem? (i := 1281) rfl
theorem z_yc128 : ∀ a, a < 128 → z_yc a := lt_s z_yc127 zy_127
set_option maxRecDepth 100000 in
theorem zy_128 : z_yc 128 := List.mem_of_getElem? (i := 1278) rfl
theorem z_yc129 : ∀ a, a < 129 → z_yc a := lt_s z_yc128 zy_128
set_option maxRecDepth 100000 in
theorem zy_129 : z_yc 129 := List.mem_of_getElem? (i := 1249) rfl
theorem z_yc130 : ∀ a, a < 130 → z_yc a := lt_s z_yc129 zy_129
set_option maxRecDepth 100000 in
theorem zy_130 : z_yc 130 := List.mem_of_getElem? (i := 1245) rfl
theorem z_yc131 : ∀ a, a < 131 → z_yc a := lt_s z_yc130 zy_130
set_option maxRecDepth 100000 in
theorem zy_131 : z_yc 131 := List.mem_of_getElem? (i := 1241) rfl
theorem z_yc132 : ∀ a, a < 132 → z_yc a := lt_s z_yc131 zy_131
set_option maxRecDepth 100000 in
theorem zy_132 : z_yc 132 := List.mem_of_getElem? (i := 1237) rfl
theorem z_yc133 : ∀ a, a < 133 → z_yc a := lt_s z_yc132 zy_132
set_option maxRecDepth 100000 in
theorem zy_133 : z_yc 133 := List.mem_of_getElem? (i := 1228) rfl
theorem z_yc134 : ∀ a, a < 134 → z_yc a := lt_s z_yc133 zy_133
set_option maxRecDepth 100000 in
theorem zy_134 : z_yc 134 := List.mem_of_getElem? (i := 1285) rfl
theorem z_yc135 : ∀ a, a < 135 → z_yc a := lt_s z_yc134 zy_134
set_option maxRecDepth 100000 in
theorem zy_135 : z_yc 135 := List.mem_of_getElem? (i := 1274) rfl
theorem z_yc136 : ∀ a, a < 136 → z_yc a := lt_s z_yc135 zy_135
set_option maxRecDepth 100000 in
theorem zy_136 : z_yc 136 := List.mem_of_getElem? (i := 1224) rfl
theorem z_yc137 : ∀ a, a < 137 → z_yc a := lt_s z_yc136 zy_136
set_option maxRecDepth 100000 in
theorem zy_137 : z_yc 137 := List.mem_of_getElem? (i := 1220) rfl
theorem z_yc138 : ∀ a, a < 138 → z_yc a := lt_s z_yc137 zy_137
set_option maxRecDepth 100000 in
theorem zy_138 : z_yc 138 := List.mem_of_getElem? (i := 1189) rfl
theorem z_yc139 : ∀ a, a < 139 → z_yc a := lt_s z_yc138 zy_138
set_option maxRecDepth 100000 in
theorem zy_139 : z_yc 139 := List.mem_of_getElem? (i := 1208) rfl
theorem z_yc140 : ∀ a, a < 140 → z_yc a := lt_s z_yc139 zy_139
set_option maxRecDepth 100000 in
theorem zy_140 : z_yc 140 := List.mem_of_getElem? (i := 1212) rfl
theorem z_yc141 : ∀ a, a < 141 → z_yc a := lt_s z_yc140 zy_140
set_option maxRecDepth 100000 in
theorem zy_141 : z_yc 141 := List.mem_of_getElem? (i := 1216) rfl
theorem z_yc142 : ∀ a, a < 142 → z_yc a := lt_s z_yc141 zy_141
set_option maxRecDepth 100000 in
theorem zy_142 : z_yc 142 := List.mem_of_getElem? (i := 1185) rfl
theorem z_yc143 : ∀ a, a < 143 → z_yc a := lt_s z_yc142 zy_142
set_option maxRecDepth 100000 in
theorem zy_143 : z_yc 143 := List.mem_of_getElem? (i := 1174) rfl
theorem z_yc144 : ∀ a, a < 144 → z_yc a := lt_s z_yc143 zy_143
set_option maxRecDepth 100000 in
theorem zy_144 : z_yc 144 := List.mem_of_getElem? (i := 1154) rfl
theorem z_yc145 : ∀ a, a < 145 → z_yc a := lt_s z_yc144 zy_144
set_option maxRecDepth 100000 in
theorem zy_145 : z_yc 145 := List.mem_of_getElem? (i := 1150) rfl
theorem z_yc146 : ∀ a, a < 146 → z_yc a := lt_s z_yc145 zy_145
set_option maxRecDepth 100000 in
theorem zy_146 : z_yc 146 := List.mem_of_getElem? (i := 1146) rfl
theorem z_yc147 : ∀ a, a < 147 → z_yc a := lt_s z_yc146 zy_146
set_option maxRecDepth 100000 in
theorem zy_147 : z_yc 147 := List.mem_of_getElem? (i := 1291) rfl
theorem z_yc148 : ∀ a, a < 148 → z_yc a := lt_s z_yc147 zy_147
set_option maxRecDepth 100000 in
theorem zy_148 : z_yc 148 := List.mem_of_getElem? (i := 1299) rfl
theorem z_yc149 : ∀ a, a < 149 → z_yc a := lt_s z_yc148 zy_148
set_option maxRecDepth 100000 in
theorem zy_149 : z_yc 149 := List.mem_of_getElem? (i := 1379) rfl
theorem z_yc150 : ∀ a, a < 150 → z_yc a := lt_s z_yc149 zy_149
set_option maxRecDepth 100000 in
theorem zy_150 : z_yc 150 := List.mem_of_getElem? (i := 1383) rfl
theorem z_yc151 : ∀ a, a < 151 → z_yc a := lt_s z_yc150 zy_150
set_option maxRecDepth 100000 in
theorem zy_151 : z_yc 151 := List.mem_of_getElem? (i := 1386) rfl
theorem z_yc152 : ∀ a, a < 152 → z_yc a := lt_s z_yc151 zy_151
set_option maxRecDepth 100000 in
theorem zy_152 : z_yc 152 := List.mem_of_getElem? (i := 1375) rfl
theorem z_yc153 : ∀ a, a < 153 → z_yc a := lt_s z_yc152 zy_152
set_option maxRecDepth 100000 in
theorem zy_153 : z_yc 153 := List.mem_of_getElem? (i := 1333) rfl
theorem z_yc154 : ∀ a, a < 154 → z_yc a := lt_s z_yc153 zy_153
set_option maxRecDepth 100000 in
theorem zy_154 : z_yc 154 := List.mem_of_getElem? (i := 1307) rfl
theorem z_yc155 : ∀ a, a < 155 → z_yc a := lt_s z_yc154 zy_154
set_option maxRecDepth 100000 in
theorem zy_155 : z_yc 155 := List.mem_of_getElem? (i := 1312) rfl
theorem z_yc156 : ∀ a, a < 156 → z_yc a := lt_s z_yc155 zy_155
set_option maxRecDepth 100000 in
theorem zy_156 : z_yc 156 := List.mem_of_getElem? (i := 1325) rfl
theorem z_yc157 : ∀ a, a < 157 → z_yc a := lt_s z_yc156 zy_156
set_option maxRecDepth 100000 in
theorem zy_157 : z_yc 157 := List.mem_of_getElem? (i := 1316) rfl
theorem z_yc158 : ∀ a, a < 158 → z_yc a := lt_s z_yc157 zy_157
set_option maxRecDepth 100000 in
theorem zy_158 : z_yc 158 := List.mem_of_getElem? (i := 1436) rfl
theorem z_yc159 : ∀ a, a < 159 → z_yc a := lt_s z_yc158 zy_158
set_option maxRecDepth 100000 in
theorem zy_159 : z_yc 159 := List.mem_of_getElem? (i := 1337) rfl
theorem z_yc160 : ∀ a, a < 160 → z_yc a := lt_s z_yc159 zy_159
set_option maxRecDepth 100000 in
theorem zy_160 : z_yc 160 := List.mem_of_getElem? (i := 1341) rfl
theorem z_yc161 : ∀ a, a < 161 → z_yc a := lt_s z_yc160 zy_160
set_option maxRecDepth 100000 in
theorem zy_161 : z_yc 161 := List.mem_of_getElem? (i := 1295) rfl
theorem z_yc162 : ∀ a, a < 162 → z_yc a := lt_s z_yc161 zy_161
set_option maxRecDepth 100000 in
theorem zy_162 : z_yc 162 := List.mem_of_getElem? (i := 1303) rfl
theorem z_yc163 : ∀ a, a < 163 → z_yc a := lt_s z_yc162 zy_162
set_option maxRecDepth 100000 in
theorem zy_163 : z_yc 163 := List.mem_of_getElem? (i := 1320) rfl
theorem z_yc164 : ∀ a, a < 164 → z_yc a := lt_s z_yc163 zy_163
set_option maxRecDepth 100000 in
theorem zy_164 : z_yc 164 := List.mem_of_getElem? (i := 1329) rfl
theorem z_yc165 : ∀ a, a < 165 → z_yc a := lt_s z_yc164 zy_164
set_option maxRecDepth 100000 in
theorem zy_165 : z_yc 165 := List.mem_of_getElem? (i := 1360) rfl
theorem z_yc166 : ∀ a, a < 166 → z_yc a := lt_s z_yc165 zy_165
set_option maxRecDepth 100000 in
theorem zy_166 : z_yc 166 := List.mem_of_getElem? (i := 1371) rfl
theorem z_yc167 : ∀ a, a < 167 → z_yc a := lt_s z_yc166 zy_166
set_option maxRecDepth 100000 in
theorem zy_167 : z_yc 167 := List.mem_of_getElem? (i := 1367) rfl
theorem z_yc168 : ∀ a, a < 168 → z_yc a := lt_s z_yc167 zy_167
set_option maxRecDepth 100000 in
theorem zy_168 : z_yc 168 := List.mem_of_getElem? (i := 1356) rfl
theorem z_yc169 : ∀ a, a < 169 → z_yc a := lt_s z_yc168 zy_168
set_option maxRecDepth 100000 in
theorem zy_169 : z_yc 169 := List.mem_of_getElem? (i := 1402) rfl
theorem z_yc170 : ∀ a, a < 170 → z_yc a := lt_s z_yc169 zy_169
set_option maxRecDepth 100000 in
theorem zy_170 : z_yc 170 := List.mem_of_getElem? (i := 1349) rfl
theorem z_yc171 : ∀ a, a < 171 → z_yc a := lt_s z_yc170 zy_170
set_option maxRecDepth 100000 in
theorem zy_171 : z_yc 171 := List.mem_of_getElem? (i := 1398) rfl
theorem z_yc172 : ∀ a, a < 172 → z_yc a := lt_s z_yc171 zy_171
set_option maxRecDepth 100000 in
theorem zy_172 : z_yc 172 := List.mem_of_getElem? (i := 1390) rfl
theorem z_yc173 : ∀ a, a < 173 → z_yc a := lt_s z_yc172 zy_172
set_option maxRecDepth 100000 in
theorem zy_173 : z_yc 173 := List.mem_of_getElem? (i := 1406) rfl
theorem z_yc174 : ∀ a, a < 174 → z_yc a := lt_s z_yc173 zy_173
set_option maxRecDepth 100000 in
theorem zy_174 : z_yc 174 := List.mem_of_getElem? (i := 1345) rfl
theorem z_yc175 : ∀ a, a < 175 → z_yc a := lt_s z_yc174 zy_174
set_option maxRecDepth 100000 in
theorem zy_175 : z_yc 175 := List.mem_of_getElem? (i := 1394) rfl
theorem z_yc176 : ∀ a, a < 176 → z_yc a := lt_s z_yc175 zy_175
set_option maxRecDepth 100000 in
theorem zy_176 : z_yc 176 := List.mem_of_getElem? (i := 1410) rfl
theorem z_yc177 : ∀ a, a < 177 → z_yc a := lt_s z_yc176 zy_176
set_option maxRecDepth 100000 in
theorem zy_177 : z_yc 177 := List.mem_of_getElem? (i := 1424) rfl
theorem z_yc178 : ∀ a, a < 178 → z_yc a := lt_s z_yc177 zy_177
set_option maxRecDepth 100000 in
theorem zy_178 : z_yc 178 := List.mem_of_getElem? (i := 1420) rfl
theorem z_yc179 : ∀ a, a < 179 → z_yc a := lt_s z_yc178 zy_178
set_option maxRecDepth 100000 in
theorem zy_179 : z_yc 179 := List.mem_of_getElem? (i := 1415) rfl
theorem z_yc180 : ∀ a, a < 180 → z_yc a := lt_s z_yc179 zy_179
set_option maxRecDepth 100000 in
theorem zy_180 : z_yc 180 := List.mem_of_getElem? (i := 1432) rfl
theorem z_yc181 : ∀ a, a < 181 → z_yc a := lt_s z_yc180 zy_180
set_option maxRecDepth 100000 in
theorem zy_181 : z_yc 181 := List.mem_of_getElem? (i := 1440) rfl
theorem z_yc182 : ∀ a, a < 182 → z_yc a := lt_s z_yc181 zy_181
set_option maxRecDepth 100000 in
theorem zy_182 : z_yc 182 := List.mem_of_getElem? (i := 1428) rfl
theorem z_yc183 : ∀ a, a < 183 → z_yc a := lt_s z_yc182 zy_182
set_option maxRecDepth 100000 in
theorem zy_183 : z_yc 183 := List.mem_of_getElem? (i := 1457) rfl
theorem z_yc184 : ∀ a, a < 184 → z_yc a := lt_s z_yc183 zy_183
set_option maxRecDepth 100000 in
theorem zy_184 : z_yc 184 := List.mem_of_getElem? (i := 1461) rfl
theorem z_yc185 : ∀ a, a < 185 → z_yc a := lt_s z_yc184 zy_184
set_option maxRecDepth 100000 in
theorem zy_185 : z_yc 185 := List.mem_of_getElem? (i := 1452) rfl
theorem z_yc186 : ∀ a, a < 186 → z_yc a := lt_s z_yc185 zy_185
set_option maxRecDepth 100000 in
theorem zy_186 : z_yc 186 := List.mem_of_getElem? (i := 1448) rfl
theorem z_yc187 : ∀ a, a < 187 → z_yc a := lt_s z_yc186 zy_186
set_option maxRecDepth 100000 in
theorem zy_187 : z_yc 187 := List.mem_of_getElem? (i := 1444) rfl
theorem z_yc188 : ∀ a, a < 188 → z_yc a := lt_s z_yc187 zy_187
set_option maxRecDepth 100000 in
theorem zy_188 : z_yc 188 := List.mem_of_getElem? (i := 1465) rfl
theorem z_yc189 : ∀ a, a < 189 → z_yc a := lt_s z_yc188 zy_188
set_option maxRecDepth 100000 in
theorem zy_189 : z_yc 189 := List.mem_of_getElem? (i := 1473) rfl
theorem z_yc190 : ∀ a, a < 190 → z_yc a := lt_s z_yc189 zy_189
set_option maxRecDepth 100000 in
theorem zy_190 : z_yc 190 := List.mem_of_getElem? (i := 1469) rfl
theorem z_yc191 : ∀ a, a < 191 → z_yc a := lt_s z_yc190 zy_190
set_option maxRecDepth 100000 in
theorem zy_191 : z_yc 191 := List.mem_of_getElem? (i := 1477) rfl
theorem z_yc192 : ∀ a, a < 192 → z_yc a := lt_s z_yc191 zy_191
set_option maxRecDepth 100000 in
theorem zy_192 : z_yc 192 := List.mem_of_getElem? (i := 1485) rfl
theorem z_yc193 : ∀ a, a < 193 → z_yc a := lt_s z_yc192 zy_192
set_option maxRecDepth 100000 in
theorem zy_193 : z_yc 193 := List.mem_of_getElem? (i := 1481) rfl
theorem z_yc194 : ∀ a, a < 194 → z_yc a := lt_s z_yc193 zy_193
set_option maxRecDepth 100000 in
theorem zy_194 : z_yc 194 := List.mem_of_getElem? (i := 1489) rfl
theorem z_yc195 : ∀ a, a < 195 → z_yc a := lt_s z_yc194 zy_194
set_option maxRecDepth 100000 in
theorem zy_195 : z_yc 195 := List.mem_of_getElem? (i := 1494) rfl
theorem z_yc196 : ∀ a, a < 196 → z_yc a := lt_s z_yc195 zy_195
set_option maxRecDepth 100000 in
theorem zy_196 : z_yc 196 := List.mem_of_getElem? (i := 1498) rfl
theorem z_yc197 : ∀ a, a < 197 → z_yc a := lt_s z_yc196 zy_196
set_option maxRecDepth 100000 in
theorem zy_197 : z_yc 197 := List.mem_of_getElem? (i := 1502) rfl
theorem z_yc198 : ∀ a, a < 198 → z_yc a := lt_s z_yc197 zy_197
set_option maxRecDepth 100000 in
theorem zy_198 : z_yc 198 := List.mem_of_getElem? (i := 1511) rfl
theorem z_yc199 : ∀ a, a < 199 → z_yc a := lt_s z_yc198 zy_198
set_option maxRecDepth 100000 in
theorem zy_199 : z_yc 199 := List.mem_of_getElem? (i := 1507) rfl
theorem z_yc200 : ∀ a, a < 200 → z_yc a := lt_s z_yc199 zy_199
set_option maxRecDepth 100000 in
theorem zy_200 : z_yc 200 := List.mem_of_getElem? (i := 1515) rfl
theorem z_yc201 : ∀ a, a < 201 → z_yc a := lt_s z_yc200 zy_200
set_option maxRecDepth 100000 in
theorem zy_201 : z_yc 201 := List.mem_of_getElem? (i := 1519) rfl
theorem z_yc202 : ∀ a, a < 202 → z_yc a := lt_s z_yc201 zy_201
set_option maxRecDepth 100000 in
theorem zy_202 : z_yc 202 := List.mem_of_getElem? (i := 1528) rfl
theorem z_yc203 : ∀ a, a < 203 → z_yc a := lt_s z_yc202 zy_202
set_option maxRecDepth 100000 in
theorem zy_203 : z_yc 203 := List.mem_of_getElem? (i := 1532) rfl
theorem z_yc204 : ∀ a, a < 204 → z_yc a := lt_s z_yc203 zy_203
set_option maxRecDepth 100000 in
theorem zy_204 : z_yc 204 := List.mem_of_getElem? (i := 1536) rfl
theorem z_yc205 : ∀ a, a < 205 → z_yc a := lt_s z_yc204 zy_204
set_option maxRecDepth 100000 in
theorem zy_205 : z_yc 205 := List.mem_of_getElem? (i := 791) rfl
theorem z_yc206 : ∀ a, a < 206 → z_yc a := lt_s z_yc205 zy_205
set_option maxRecDepth 100000 in
theorem zy_206 : z_yc 206 := List.mem_of_getElem? (i := 525) rfl
theorem z_yc207 : ∀ a, a < 207 → z_yc a := lt_s z_yc206 zy_206
set_option maxRecDepth 100000 in
theorem zy_207 : z_yc 207 := List.mem_of_getElem? (i := 535) rfl
theorem z_yc208 : ∀ a, a < 208 → z_yc a := lt_s z_yc207 zy_207
set_option maxRecDepth 100000 in
theorem zy_208 : z_yc 208 := List.mem_of_getElem? (i := 529) rfl
theorem z_yc209 : ∀ a, a < 209 → z_yc a := lt_s z_yc208 zy_208
set_option maxRecDepth 100000 in
theorem zy_209 : z_yc 209 := List.mem_of_getElem? (i := 539) rfl
theorem z_yc210 : ∀ a, a < 210 → z_yc a := lt_s z_yc209 zy_209
set_option maxRecDepth 100000 in
theorem zy_210 : z_yc 210 := List.mem_of_getElem? (i := 545) rfl
theorem z_yc211 : ∀ a, a < 211 → z_yc a := lt_s z_yc210 zy_210
set_option maxRecDepth 100000 in
theorem zy_211 : z_yc 211 := List.mem_of_getElem? (i := 542) rfl
theorem z_yc212 : ∀ a, a < 212 → z_yc a := lt_s z_yc211 zy_211
set_option maxRecDepth 100000 in
theorem zy_212 : z_yc 212 := List.mem_of_getElem? (i := 933) rfl
theorem z_yc213 : ∀ a, a < 213 → z_yc a := lt_s z_yc212 zy_212
set_option maxRecDepth 100000 in
theorem zy_213 : z_yc 213 := List.mem_of_getElem? (i := 682) rfl
theorem z_yc214 : ∀ a, a < 214 → z_yc a := lt_s z_yc213 zy_213
set_option maxRecDepth 100000 in
theorem zy_214 : z_yc 214 := List.mem_of_getElem? (i := 550) rfl
theorem z_yc215 : ∀ a, a < 215 → z_yc a := lt_s z_yc214 zy_214
