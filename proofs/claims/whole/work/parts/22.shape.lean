/-! THE SHAPE behind the constructors: cells 0 to 50 the class's, 51 to 70 the reference's; their kinds, lengths and fixed references. -/
def shL : List (Nat × Nat × Nat) := [(0, 10, 15), (1, 3, 11), (2, 14, 8), (3, 14, 8), (4, 14, 8), (5, 14, 24), (6, 14, 24), (7, 14, 24), (8, 14, 24), (9, 7, 8), (10, 13, 400), (11, 8, 3), (12, 5, 7), (13, 14, 400), (14, 14, 12), (15, 14, 12), (16, 18, 6), (17, 6, 6), (18, 17, 8), (19, 1, 7), (20, 1, 7), (21, 1, 7), (22, 1, 7), (23, 1, 7), (24, 1, 7), (25, 1, 7), (26, 1, 7), (27, 6, 6), (28, 17, 8), (29, 1, 7), (30, 1, 7), (31, 1, 7), (32, 1, 7), (33, 1, 7), (34, 1, 7), (35, 1, 7), (36, 1, 7), (37, 19, 4), (38, 1, 7), (39, 0, 2), (40, 15, 10), (41, 15, 64), (42, 2, 2), (43, 9, 11), (44, 14, 24), (45, 14, 24), (46, 14, 10), (47, 1, 7), (48, 16, 256), (49, 14, 8), (50, 14, 10), (51, 11, 39), (52, 12, 400), (53, 14, 2400), (54, 14, 7), (55, 14, 216), (56, 14, 6), (57, 14, 24), (58, 14, 72), (59, 14, 400), (60, 15, 64), (61, 15, 9), (62, 14, 139), (63, 14, 139), (64, 14, 24), (65, 14, 10), (66, 14, 8), (67, 14, 10), (68, 14, 6), (69, 14, 556), (70, 16, 4)]
def rsL : List (Nat × Nat × Nat) := [(0, 0, 9), (0, 1, 11), (0, 2, 12), (0, 3, 16), (0, 5, 17), (0, 6, 27), (0, 7, 37), (0, 8, 38), (0, 9, 39), (0, 10, 42), (0, 11, 43), (0, 12, 48), (0, 13, 49), (0, 14, 50), (1, 4, 2), (1, 5, 3), (1, 6, 4), (1, 7, 5), (1, 8, 6), (1, 9, 7), (1, 10, 8), (9, 0, 10), (11, 0, 9), (12, 0, 9), (12, 1, 13), (12, 3, 14), (12, 4, 15), (17, 5, 18), (18, 0, 19), (18, 1, 20), (18, 2, 21), (18, 3, 22), (18, 4, 23), (18, 5, 24), (18, 6, 25), (18, 7, 26), (27, 5, 28), (28, 0, 29), (28, 1, 30), (28, 2, 31), (28, 3, 32), (28, 4, 33), (28, 5, 34), (28, 6, 35), (28, 7, 36), (39, 0, 40), (39, 1, 41), (42, 0, 39), (43, 0, 39), (43, 1, 17), (43, 7, 44), (43, 8, 45), (43, 10, 46), (51, 0, 52), (51, 3, 53), (51, 4, 54), (51, 5, 55), (51, 6, 56), (51, 11, 57), (51, 12, 58), (51, 20, 59), (51, 22, 60), (51, 24, 61), (51, 25, 62), (51, 27, 63), (51, 28, 64), (51, 30, 65), (51, 34, 66), (51, 35, 67), (51, 36, 68), (51, 37, 69), (51, 38, 70)]
def Sh (G : zG) : Prop := (∀ q ∈ shL, za G q.1 q.2.1 q.2.2) ∧ 71 ≤ G.2.2.1
def Rs (R : Nat → Nat → Option Nat) : Prop := ∀ q ∈ rsL, R q.1 q.2.1 = some q.2.2
theorem Sh.o0 {G : zG} (h : Sh G) : zo G 0 10 := h.1 (0, 10, 15) (by decide)
theorem Sh.o1 {G : zG} (h : Sh G) : zo G 1 3 := h.1 (1, 3, 11) (by decide)
theorem Sh.a2 {G : zG} (h : Sh G) : za G 2 14 8 := h.1 (2, 14, 8) (by decide)
theorem Sh.a3 {G : zG} (h : Sh G) : za G 3 14 8 := h.1 (3, 14, 8) (by decide)
theorem Sh.a4 {G : zG} (h : Sh G) : za G 4 14 8 := h.1 (4, 14, 8) (by decide)
theorem Sh.a5 {G : zG} (h : Sh G) : za G 5 14 24 := h.1 (5, 14, 24) (by decide)
theorem Sh.a6 {G : zG} (h : Sh G) : za G 6 14 24 := h.1 (6, 14, 24) (by decide)
theorem Sh.a7 {G : zG} (h : Sh G) : za G 7 14 24 := h.1 (7, 14, 24) (by decide)
theorem Sh.a8 {G : zG} (h : Sh G) : za G 8 14 24 := h.1 (8, 14, 24) (by decide)
theorem Sh.o9 {G : zG} (h : Sh G) : zo G 9 7 := h.1 (9, 7, 8) (by decide)
theorem Sh.a10 {G : zG} (h : Sh G) : za G 10 13 400 := h.1 (10, 13, 400) (by decide)
theorem Sh.o11 {G : zG} (h : Sh G) : zo G 11 8 := h.1 (11, 8, 3) (by decide)
theorem Sh.o12 {G : zG} (h : Sh G) : zo G 12 5 := h.1 (12, 5, 7) (by decide)
theorem Sh.a13 {G : zG} (h : Sh G) : za G 13 14 400 := h.1 (13, 14, 400) (by decide)
theorem Sh.a14 {G : zG} (h : Sh G) : za G 14 14 12 := h.1 (14, 14, 12) (by decide)
theorem Sh.a15 {G : zG} (h : Sh G) : za G 15 14 12 := h.1 (15, 14, 12) (by decide)
theorem Sh.a16 {G : zG} (h : Sh G) : za G 16 18 6 := h.1 (16, 18, 6) (by decide)
theorem Sh.o17 {G : zG} (h : Sh G) : zo G 17 6 := h.1 (17, 6, 6) (by decide)
theorem Sh.a18 {G : zG} (h : Sh G) : za G 18 17 8 := h.1 (18, 17, 8) (by decide)
theorem Sh.o19 {G : zG} (h : Sh G) : zo G 19 1 := h.1 (19, 1, 7) (by decide)
theorem Sh.o20 {G : zG} (h : Sh G) : zo G 20 1 := h.1 (20, 1, 7) (by decide)
theorem Sh.o21 {G : zG} (h : Sh G) : zo G 21 1 := h.1 (21, 1, 7) (by decide)
theorem Sh.o22 {G : zG} (h : Sh G) : zo G 22 1 := h.1 (22, 1, 7) (by decide)
theorem Sh.o23 {G : zG} (h : Sh G) : zo G 23 1 := h.1 (23, 1, 7) (by decide)
theorem Sh.o24 {G : zG} (h : Sh G) : zo G 24 1 := h.1 (24, 1, 7) (by decide)
theorem Sh.o25 {G : zG} (h : Sh G) : zo G 25 1 := h.1 (25, 1, 7) (by decide)
theorem Sh.o26 {G : zG} (h : Sh G) : zo G 26 1 := h.1 (26, 1, 7) (by decide)
theorem Sh.o27 {G : zG} (h : Sh G) : zo G 27 6 := h.1 (27, 6, 6) (by decide)
theorem Sh.a28 {G : zG} (h : Sh G) : za G 28 17 8 := h.1 (28, 17, 8) (by decide)
theorem Sh.o29 {G : zG} (h : Sh G) : zo G 29 1 := h.1 (29, 1, 7) (by decide)
theorem Sh.o30 {G : zG} (h : Sh G) : zo G 30 1 := h.1 (30, 1, 7) (by decide)
theorem Sh.o31 {G : zG} (h : Sh G) : zo G 31 1 := h.1 (31, 1, 7) (by decide)
theorem Sh.o32 {G : zG} (h : Sh G) : zo G 32 1 := h.1 (32, 1, 7) (by decide)
theorem Sh.o33 {G : zG} (h : Sh G) : zo G 33 1 := h.1 (33, 1, 7) (by decide)
theorem Sh.o34 {G : zG} (h : Sh G) : zo G 34 1 := h.1 (34, 1, 7) (by decide)
theorem Sh.o35 {G : zG} (h : Sh G) : zo G 35 1 := h.1 (35, 1, 7) (by decide)
theorem Sh.o36 {G : zG} (h : Sh G) : zo G 36 1 := h.1 (36, 1, 7) (by decide)
theorem Sh.a37 {G : zG} (h : Sh G) : za G 37 19 4 := h.1 (37, 19, 4) (by decide)
theorem Sh.o38 {G : zG} (h : Sh G) : zo G 38 1 := h.1 (38, 1, 7) (by decide)
theorem Sh.o39 {G : zG} (h : Sh G) : zo G 39 0 := h.1 (39, 0, 2) (by decide)
theorem Sh.a40 {G : zG} (h : Sh G) : za G 40 15 10 := h.1 (40, 15, 10) (by decide)
theorem Sh.a41 {G : zG} (h : Sh G) : za G 41 15 64 := h.1 (41, 15, 64) (by decide)
theorem Sh.o42 {G : zG} (h : Sh G) : zo G 42 2 := h.1 (42, 2, 2) (by decide)
theorem Sh.o43 {G : zG} (h : Sh G) : zo G 43 9 := h.1 (43, 9, 11) (by decide)
theorem Sh.a44 {G : zG} (h : Sh G) : za G 44 14 24 := h.1 (44, 14, 24) (by decide)
theorem Sh.a45 {G : zG} (h : Sh G) : za G 45 14 24 := h.1 (45, 14, 24) (by decide)
theorem Sh.a46 {G : zG} (h : Sh G) : za G 46 14 10 := h.1 (46, 14, 10) (by decide)
theorem Sh.o47 {G : zG} (h : Sh G) : zo G 47 1 := h.1 (47, 1, 7) (by decide)
theorem Sh.a48 {G : zG} (h : Sh G) : za G 48 16 256 := h.1 (48, 16, 256) (by decide)
theorem Sh.a49 {G : zG} (h : Sh G) : za G 49 14 8 := h.1 (49, 14, 8) (by decide)
theorem Sh.a50 {G : zG} (h : Sh G) : za G 50 14 10 := h.1 (50, 14, 10) (by decide)
theorem Sh.o51 {G : zG} (h : Sh G) : zo G 51 11 := h.1 (51, 11, 39) (by decide)
theorem Sh.a52 {G : zG} (h : Sh G) : za G 52 12 400 := h.1 (52, 12, 400) (by decide)
theorem Sh.a53 {G : zG} (h : Sh G) : za G 53 14 2400 := h.1 (53, 14, 2400) (by decide)
theorem Sh.a54 {G : zG} (h : Sh G) : za G 54 14 7 := h.1 (54, 14, 7) (by decide)
theorem Sh.a55 {G : zG} (h : Sh G) : za G 55 14 216 := h.1 (55, 14, 216) (by decide)
theorem Sh.a56 {G : zG} (h : Sh G) : za G 56 14 6 := h.1 (56, 14, 6) (by decide)
theorem Sh.a57 {G : zG} (h : Sh G) : za G 57 14 24 := h.1 (57, 14, 24) (by decide)
theorem Sh.a58 {G : zG} (h : Sh G) : za G 58 14 72 := h.1 (58, 14, 72) (by decide)
theorem Sh.a59 {G : zG} (h : Sh G) : za G 59 14 400 := h.1 (59, 14, 400) (by decide)
theorem Sh.a60 {G : zG} (h : Sh G) : za G 60 15 64 := h.1 (60, 15, 64) (by decide)
theorem Sh.a61 {G : zG} (h : Sh G) : za G 61 15 9 := h.1 (61, 15, 9) (by decide)
theorem Sh.a62 {G : zG} (h : Sh G) : za G 62 14 139 := h.1 (62, 14, 139) (by decide)
theorem Sh.a63 {G : zG} (h : Sh G) : za G 63 14 139 := h.1 (63, 14, 139) (by decide)
theorem Sh.a64 {G : zG} (h : Sh G) : za G 64 14 24 := h.1 (64, 14, 24) (by decide)
theorem Sh.a65 {G : zG} (h : Sh G) : za G 65 14 10 := h.1 (65, 14, 10) (by decide)
theorem Sh.a66 {G : zG} (h : Sh G) : za G 66 14 8 := h.1 (66, 14, 8) (by decide)
theorem Sh.a67 {G : zG} (h : Sh G) : za G 67 14 10 := h.1 (67, 14, 10) (by decide)
theorem Sh.a68 {G : zG} (h : Sh G) : za G 68 14 6 := h.1 (68, 14, 6) (by decide)
theorem Sh.a69 {G : zG} (h : Sh G) : za G 69 14 556 := h.1 (69, 14, 556) (by decide)
theorem Sh.a70 {G : zG} (h : Sh G) : za G 70 16 4 := h.1 (70, 16, 4) (by decide)
theorem Rs.r0_0 {R : Nat → Nat → Option Nat} (h : Rs R) : R 0 0 = some 9 := h (0, 0, 9) (by decide)
theorem Rs.r0_1 {R : Nat → Nat → Option Nat} (h : Rs R) : R 0 1 = some 11 := h (0, 1, 11) (by decide)
theorem Rs.r0_2 {R : Nat → Nat → Option Nat} (h : Rs R) : R 0 2 = some 12 := h (0, 2, 12) (by decide)
theorem Rs.r0_3 {R : Nat → Nat → Option Nat} (h : Rs R) : R 0 3 = some 16 := h (0, 3, 16) (by decide)
theorem Rs.r0_5 {R : Nat → Nat → Option Nat} (h : Rs R) : R 0 5 = some 17 := h (0, 5, 17) (by decide)
theorem Rs.r0_6 {R : Nat → Nat → Option Nat} (h : Rs R) : R 0 6 = some 27 := h (0, 6, 27) (by decide)
theorem Rs.r0_7 {R : Nat → Nat → Option Nat} (h : Rs R) : R 0 7 = some 37 := h (0, 7, 37) (by decide)
theorem Rs.r0_8 {R : Nat → Nat → Option Nat} (h : Rs R) : R 0 8 = some 38 := h (0, 8, 38) (by decide)
theorem Rs.r0_9 {R : Nat → Nat → Option Nat} (h : Rs R) : R 0 9 = some 39 := h (0, 9, 39) (by decide)
theorem Rs.r0_10 {R : Nat → Nat → Option Nat} (h : Rs R) : R 0 10 = some 42 := h (0, 10, 42) (by decide)
theorem Rs.r0_11 {R : Nat → Nat → Option Nat} (h : Rs R) : R 0 11 = some 43 := h (0, 11, 43) (by decide)
theorem Rs.r0_12 {R : Nat → Nat → Option Nat} (h : Rs R) : R 0 12 = some 48 := h (0, 12, 48) (by decide)
theorem Rs.r0_13 {R : Nat → Nat → Option Nat} (h : Rs R) : R 0 13 = some 49 := h (0, 13, 49) (by decide)
theorem Rs.r0_14 {R : Nat → Nat → Option Nat} (h : Rs R) : R 0 14 = some 50 := h (0, 14, 50) (by decide)
theorem Rs.r1_4 {R : Nat → Nat → Option Nat} (h : Rs R) : R 1 4 = some 2 := h (1, 4, 2) (by decide)
theorem Rs.r1_5 {R : Nat → Nat → Option Nat} (h : Rs R) : R 1 5 = some 3 := h (1, 5, 3) (by decide)
theorem Rs.r1_6 {R : Nat → Nat → Option Nat} (h : Rs R) : R 1 6 = some 4 := h (1, 6, 4) (by decide)
theorem Rs.r1_7 {R : Nat → Nat → Option Nat} (h : Rs R) : R 1 7 = some 5 := h (1, 7, 5) (by decide)
theorem Rs.r1_8 {R : Nat → Nat → Option Nat} (h : Rs R) : R 1 8 = some 6 := h (1, 8, 6) (by decide)
theorem Rs.r1_9 {R : Nat → Nat → Option Nat} (h : Rs R) : R 1 9 = some 7 := h (1, 9, 7) (by decide)
theorem Rs.r1_10 {R : Nat → Nat → Option Nat} (h : Rs R) : R 1 10 = some 8 := h (1, 10, 8) (by decide)
theorem Rs.r9_0 {R : Nat → Nat → Option Nat} (h : Rs R) : R 9 0 = some 10 := h (9, 0, 10) (by decide)
theorem Rs.r11_0 {R : Nat → Nat → Option Nat} (h : Rs R) : R 11 0 = some 9 := h (11, 0, 9) (by decide)
theorem Rs.r12_0 {R : Nat → Nat → Option Nat} (h : Rs R) : R 12 0 = some 9 := h (12, 0, 9) (by decide)
theorem Rs.r12_1 {R : Nat → Nat → Option Nat} (h : Rs R) : R 12 1 = some 13 := h (12, 1, 13) (by decide)
theorem Rs.r12_3 {R : Nat → Nat → Option Nat} (h : Rs R) : R 12 3 = some 14 := h (12, 3, 14) (by decide)
theorem Rs.r12_4 {R : Nat → Nat → Option Nat} (h : Rs R) : R 12 4 = some 15 := h (12, 4, 15) (by decide)
theorem Rs.r17_5 {R : Nat → Nat → Option Nat} (h : Rs R) : R 17 5 = some 18 := h (17, 5, 18) (by decide)
theorem Rs.r18_0 {R : Nat → Nat → Option Nat} (h : Rs R) : R 18 0 = some 19 := h (18, 0, 19) (by decide)
theorem Rs.r18_1 {R : Nat → Nat → Option Nat} (h : Rs R) : R 18 1 = some 20 := h (18, 1, 20) (by decide)
theorem Rs.r18_2 {R : Nat → Nat → Option Nat} (h : Rs R) : R 18 2 = some 21 := h (18, 2, 21) (by decide)
theorem Rs.r18_3 {R : Nat → Nat → Option Nat} (h : Rs R) : R 18 3 = some 22 := h (18, 3, 22) (by decide)
theorem Rs.r18_4 {R : Nat → Nat → Option Nat} (h : Rs R) : R 18 4 = some 23 := h (18, 4, 23) (by decide)
theorem Rs.r18_5 {R : Nat → Nat → Option Nat} (h : Rs R) : R 18 5 = some 24 := h (18, 5, 24) (by decide)
theorem Rs.r18_6 {R : Nat → Nat → Option Nat} (h : Rs R) : R 18 6 = some 25 := h (18, 6, 25) (by decide)
theorem Rs.r18_7 {R : Nat → Nat → Option Nat} (h : Rs R) : R 18 7 = some 26 := h (18, 7, 26) (by decide)
theorem Rs.r27_5 {R : Nat → Nat → Option Nat} (h : Rs R) : R 27 5 = some 28 := h (27, 5, 28) (by decide)
theorem Rs.r28_0 {R : Nat → Nat → Option Nat} (h : Rs R) : R 28 0 = some 29 := h (28, 0, 29) (by decide)
theorem Rs.r28_1 {R : Nat → Nat → Option Nat} (h : Rs R) : R 28 1 = some 30 := h (28, 1, 30) (by decide)
theorem Rs.r28_2 {R : Nat → Nat → Option Nat} (h : Rs R) : R 28 2 = some 31 := h (28, 2, 31) (by decide)
theorem Rs.r28_3 {R : Nat → Nat → Option Nat} (h : Rs R) : R 28 3 = some 32 := h (28, 3, 32) (by decide)
theorem Rs.r28_4 {R : Nat → Nat → Option Nat} (h : Rs R) : R 28 4 = some 33 := h (28, 4, 33) (by decide)
theorem Rs.r28_5 {R : Nat → Nat → Option Nat} (h : Rs R) : R 28 5 = some 34 := h (28, 5, 34) (by decide)
theorem Rs.r28_6 {R : Nat → Nat → Option Nat} (h : Rs R) : R 28 6 = some 35 := h (28, 6, 35) (by decide)
theorem Rs.r28_7 {R : Nat → Nat → Option Nat} (h : Rs R) : R 28 7 = some 36 := h (28, 7, 36) (by decide)
theorem Rs.r39_0 {R : Nat → Nat → Option Nat} (h : Rs R) : R 39 0 = some 40 := h (39, 0, 40) (by decide)
theorem Rs.r39_1 {R : Nat → Nat → Option Nat} (h : Rs R) : R 39 1 = some 41 := h (39, 1, 41) (by decide)
theorem Rs.r42_0 {R : Nat → Nat → Option Nat} (h : Rs R) : R 42 0 = some 39 := h (42, 0, 39) (by decide)
theorem Rs.r43_0 {R : Nat → Nat → Option Nat} (h : Rs R) : R 43 0 = some 39 := h (43, 0, 39) (by decide)
theorem Rs.r43_1 {R : Nat → Nat → Option Nat} (h : Rs R) : R 43 1 = some 17 := h (43, 1, 17) (by decide)
theorem Rs.r43_7 {R : Nat → Nat → Option Nat} (h : Rs R) : R 43 7 = some 44 := h (43, 7, 44) (by decide)
theorem Rs.r43_8 {R : Nat → Nat → Option Nat} (h : Rs R) : R 43 8 = some 45 := h (43, 8, 45) (by decide)
theorem Rs.r43_10 {R : Nat → Nat → Option Nat} (h : Rs R) : R 43 10 = some 46 := h (43, 10, 46) (by decide)
theorem Rs.r51_0 {R : Nat → Nat → Option Nat} (h : Rs R) : R 51 0 = some 52 := h (51, 0, 52) (by decide)
theorem Rs.r51_3 {R : Nat → Nat → Option Nat} (h : Rs R) : R 51 3 = some 53 := h (51, 3, 53) (by decide)
theorem Rs.r51_4 {R : Nat → Nat → Option Nat} (h : Rs R) : R 51 4 = some 54 := h (51, 4, 54) (by decide)
theorem Rs.r51_5 {R : Nat → Nat → Option Nat} (h : Rs R) : R 51 5 = some 55 := h (51, 5, 55) (by decide)
theorem Rs.r51_6 {R : Nat → Nat → Option Nat} (h : Rs R) : R 51 6 = some 56 := h (51, 6, 56) (by decide)
theorem Rs.r51_11 {R : Nat → Nat → Option Nat} (h : Rs R) : R 51 11 = some 57 := h (51, 11, 57) (by decide)
theorem Rs.r51_12 {R : Nat → Nat → Option Nat} (h : Rs R) : R 51 12 = some 58 := h (51, 12, 58) (by decide)
theorem Rs.r51_20 {R : Nat → Nat → Option Nat} (h : Rs R) : R 51 20 = some 59 := h (51, 20, 59) (by decide)
theorem Rs.r51_22 {R : Nat → Nat → Option Nat} (h : Rs R) : R 51 22 = some 60 := h (51, 22, 60) (by decide)
theorem Rs.r51_24 {R : Nat → Nat → Option Nat} (h : Rs R) : R 51 24 = some 61 := h (51, 24, 61) (by decide)
theorem Rs.r51_25 {R : Nat → Nat → Option Nat} (h : Rs R) : R 51 25 = some 62 := h (51, 25, 62) (by decide)
theorem Rs.r51_27 {R : Nat → Nat → Option Nat} (h : Rs R) : R 51 27 = some 63 := h (51, 27, 63) (by decide)
theorem Rs.r51_28 {R : Nat → Nat → Option Nat} (h : Rs R) : R 51 28 = some 64 := h (51, 28, 64) (by decide)
theorem Rs.r51_30 {R : Nat → Nat → Option Nat} (h : Rs R) : R 51 30 = some 65 := h (51, 30, 65) (by decide)
theorem Rs.r51_34 {R : Nat → Nat → Option Nat} (h : Rs R) : R 51 34 = some 66 := h (51, 34, 66) (by decide)
theorem Rs.r51_35 {R : Nat → Nat → Option Nat} (h : Rs R) : R 51 35 = some 67 := h (51, 35, 67) (by decide)
theorem Rs.r51_36 {R : Nat → Nat → Option Nat} (h : Rs R) : R 51 36 = some 68 := h (51, 36, 68) (by decide)
theorem Rs.r51_37 {R : Nat → Nat → Option Nat} (h : Rs R) : R 51 37 = some 69 := h (51, 37, 69) (by decide)
theorem Rs.r51_38 {R : Nat → Nat → Option Nat} (h : Rs R) : R 51 38 = some 70 := h (51, 38, 70) (by decide)
theorem Sh.new {G : zG} (h : Sh G) (kd len : Nat) : Sh (zGn G kd len) := by
  refine ⟨fun q hq => ?_, Nat.le_succ_of_le h.2⟩
  obtain ⟨h1, h2, h3⟩ := h.1 q hq
  have hne : q.1 ≠ G.2.2.1 := Nat.ne_of_lt h1
  exact ⟨Nat.lt_succ_of_lt h1, (z_1_ne hne).trans h2, (z_1_ne hne).trans h3⟩
theorem Rs.u {R : Nat → Nat → Option Nat} (h : Rs R) {p k : Nat} {v : Option Nat} (hn : ∀ q ∈ rsL, ¬ (q.1 = p ∧ q.2.1 = k)) : Rs (z_u R p k v) := by
  intro q hq
  have := hn q hq
  unfold z_u
  rw [if_neg this]
  exact h q hq
theorem Rs.r {R : Nat → Nat → Option Nat} (h : Rs R) {p : Nat} {g : Nat → Option Nat} (hp : 71 ≤ p) : Rs (z_r R p g) := by
  intro q hq
  have h9 : q.1 < 71 := (by decide : ∀ q ∈ rsL, q.1 < 71) q hq
  rw [z_r_ne (by omega)]
  exact h q hq
/-! the constructors' run doesn't look at the script -/
def clS : List Nat := [0, 8, 13, 18, 21, 23, 34, 46, 56, 62, 70, 109]
def clB (Y : Nat) : Bool := (z_tabs.getD Y []).all (fun q => match q.2.1 with
  | .iaload => false
  | .arraylength => false
  | .invokestatic y => clS.contains y
  | .invokespecial y => clS.contains y
  | .invokevirtual y => clS.contains y
  | _ => true)
theorem clS_ok : clS.all clB = true := by decide +kernel
theorem zst_nox {x x' : Nat × (Nat → Int32)} {i : Instr} {np tg : Nat} {L S : List Value} {m : zM} (h1 : i ≠ .iaload) (h2 : i ≠ .arraylength) : z_st x i np tg L S m = z_st x' i np tg L S m := by
  cases i <;> first | rfl | exact absurd rfl h1 | exact absurd rfl h2
theorem zst_cal {x : Nat × (Nat → Int32)} {i : Instr} {np tg y : Nat} {L S as rest : List Value} {m : zM} (h : z_st x i np tg L S m = some (.inr (.inr (y, as, rest)))) : i = .invokestatic y ∨ i = .invokespecial y ∨ i = .invokevirtual y := by
  cases i <;> simp only [z_st] at h <;> (repeat' (split at h)) <;> first
    | (cases h; done)
    | (cases h; simp)
theorem zex_nox {x x' : Nat × (Nat → Int32)} : ∀ (n d Y pc : Nat) (L S : List Value) (m : zM), Y ∈ clS → z_ex x n d Y pc L S m = z_ex x' n d Y pc L S m := by
  intro n
  induction n with
  | zero => intro d Y pc L S m _; rfl
  | succ n ih =>
    intro d Y pc L S m hY
    cases hf : z_fetch Y pc with
    | none => simp only [z_ex, hf]
    | some q =>
      obtain ⟨i, np, tg⟩ := q
      have hb := List.all_eq_true.mp (List.all_eq_true.mp clS_ok Y hY) _ (z_lookup _ _ _ hf)
      have h1 : i ≠ .iaload := by rintro rfl; cases hb
      have h2 : i ≠ .arraylength := by rintro rfl; cases hb
      have e := zst_nox (x := x) (x' := x') (np := np) (tg := tg) (L := L) (S := S) (m := m) h1 h2
      simp only [z_ex, hf, e]
      cases hs : z_st x' i np tg L S m with
      | none => rfl
      | some o =>
        cases o with
        | inl q =>
          obtain ⟨pc1, L1, S1, m1⟩ := q
          exact ih _ _ _ _ _ _ hY
        | inr o =>
          cases o with
          | inl v => rfl
          | inr q =>
            obtain ⟨y, as, rest⟩ := q
            have hy : y ∈ clS := by
              rcases zst_cal hs with rfl | rfl | rfl <;> simpa using hb
            cases d with
            | zero => rfl
            | succ d' =>
              simp only [ih d' y 0 _ _ m hy]
              cases z_ex x' n d' y 0 (z_l0 as (z_ml.getD y 0)) [] m with
              | none => rfl
              | some w => exact ih _ _ _ _ _ _ hY
def ix0 : Nat × (Nat → Int32) := (0, fun _ => 0)
def iR1 : Option (Option Value × zM) := z_ex ix0 5000 398 70 0 (z_l0 [.ref 0] (z_ml.getD 70 0)) [] (sC z_m0 10 15)
def im1 : zM := (iR1.getD (none, z_m0)).2
def iR2 : Option (Option Value × zM) := z_ex ix0 5000 398 109 0 (z_l0 [.ref 51] (z_ml.getD 109 0)) [] (sC im1 11 39)
def im2 : zM := (iR2.getD (none, z_m0)).2
def iOk (r : Option (Option Value × zM)) : Bool := match r with
  | some (none, _) => true
  | _ => false
theorem iOk_eq {r : Option (Option Value × zM)} (h : iOk r = true) : r = some (none, (r.getD (none, z_m0)).2) := by
  match r, h with
  | some (none, m), _ => rfl
theorem i_1 : iOk iR1 = true ∧ zn im1 = 51 ∧ zt im1 = 1573 := by decide +kernel
theorem i_2 : iOk iR2 = true ∧ zn im2 = 71 ∧ zt im2 = 6106 := by decide +kernel
theorem i_run1 (x : Nat × (Nat → Int32)) : zRn x 398 70 [.ref 0] (sC z_m0 10 15) none im1 :=
  ⟨5000, none, im1, by rw [zex_nox (x' := ix0) _ _ _ _ _ _ _ (by decide)]; exact iOk_eq i_1.1, rfl, rfl⟩
theorem i_run2 (x : Nat × (Nat → Int32)) : zRn x 398 109 [.ref 51] (sC im1 11 39) none im2 :=
  ⟨5000, none, im2, by rw [zex_nox (x' := ix0) _ _ _ _ _ _ _ (by decide)]; exact iOk_eq i_2.1, rfl, rfl⟩
theorem i_sh : shL.all (fun q => decide (q.1 < zn im2) && decide (zK im2 q.1 = q.2.1) && decide (zN im2 q.1 = q.2.2)) = true := by decide +kernel
theorem i_rs : rsL.all (fun q => decide (zR im2 q.1 q.2.1 = some q.2.2)) = true := by decide +kernel

