def sc_hd (r : List (Nat × sc_EN)) : Nat := match r with
  | [] => 0
  | q :: _ => q.1
def sc_TS (y : MethodName) (cc : ByteArray) (nL : Nat) (rt : Option FieldType) : List (Nat × sc_EN) → Prop
  | [] => True
  | q :: r => sc_Snd y cc nL rt q.1 (sc_hd r) q.2 ∧ sc_TS y cc nL rt r
theorem sc_tc {y : MethodName} {cc : ByteArray} {nL : Nat} {rt : Option FieldType} {pc : Nat} {f : sc_EN} {r : List (Nat × sc_EN)} (h : sc_Snd y cc nL rt pc (sc_hd r) f) (hr : sc_TS y cc nL rt r) : sc_TS y cc nL rt ((pc, f) :: r) := ⟨h, hr⟩
noncomputable def st_X0_does : List (Nat × sc_EN) := [(0, sc_ldA 0), (1, sc_get 0 0), (4, sc_if_eq 29), (7, sc_ldA 0), (8, sc_get 0 5), (11, sc_if_ne 29), (14, sc_ldA 0), (15, sc_get 0 1), (18, sc_get 1 0), (21, sc_ldI 1), (22, sc_ic_ne 29), (25, sc_cst 1), (26, sc_goto 30), (29, sc_cst 0), (30, sc_retZ)]
noncomputable def st_X1_writesD : List (Nat × sc_EN) := [(0, sc_ldA 0), (1, sc_get 1 0), (4, sc_cst 11), (6, sc_ic_le 27), (9, sc_ldA 0), (10, sc_get 1 0), (13, sc_cst 15), (15, sc_ic_eq 27), (18, sc_ldA 0), (19, sc_get 1 0), (22, sc_cst 16), (24, sc_ic_ne 31), (27, sc_cst 1), (28, sc_goto 32), (31, sc_cst 0), (32, sc_retZ)]
noncomputable def st_X0_writes : List (Nat × sc_EN) := [(0, sc_ldA 0), (1, sc_get 0 0), (4, sc_if_eq 43), (7, sc_ldA 0), (8, sc_get 0 5), (11, sc_if_ne 43), (14, sc_ldI 1), (15, sc_if_eq 43), (18, sc_ldA 0), (19, sc_get 0 1), (22, sc_inv 1 1 1), (25, sc_if_eq 43), (28, sc_ldA 0), (29, sc_get 0 1), (32, sc_get 1 1), (35, sc_ldI 1), (36, sc_ic_ne 43), (39, sc_cst 1), (40, sc_goto 44), (43, sc_cst 0), (44, sc_retZ)]
noncomputable def st_X1_isBranch : List (Nat × sc_EN) := [(0, sc_ldA 0), (1, sc_get 1 0), (4, sc_cst 13), (6, sc_ic_eq 18), (9, sc_ldA 0), (10, sc_get 1 0), (13, sc_cst 14), (15, sc_ic_ne 22), (18, sc_cst 1), (19, sc_goto 23), (22, sc_cst 0), (23, sc_retZ)]
noncomputable def st_X1_usesT : List (Nat × sc_EN) := [(0, sc_ldA 0), (1, sc_get 1 0), (4, sc_cst 8), (6, sc_ic_le 25), (9, sc_ldA 0), (10, sc_get 1 0), (13, sc_cst 12), (15, sc_ic_eq 25), (18, sc_ldA 0), (19, sc_inv 3 1 1), (22, sc_if_eq 29), (25, sc_cst 1), (26, sc_goto 30), (29, sc_cst 0), (30, sc_retZ)]
noncomputable def st_X1_usesS : List (Nat × sc_EN) := [(0, sc_ldA 0), (1, sc_get 1 0), (4, sc_cst 9), (6, sc_ic_le 34), (9, sc_ldA 0), (10, sc_get 1 0), (13, sc_cst 11), (15, sc_ic_eq 34), (18, sc_ldA 0), (19, sc_get 1 0), (22, sc_cst 16), (24, sc_ic_eq 34), (27, sc_ldA 0), (28, sc_inv 4 1 1), (31, sc_if_eq 38), (34, sc_cst 1), (35, sc_goto 39), (38, sc_cst 0), (39, sc_retZ)]
noncomputable def st_X1_touchesData : List (Nat × sc_EN) := [(0, sc_ldA 0), (1, sc_get 1 0), (4, sc_cst 11), (6, sc_ic_eq 18), (9, sc_ldA 0), (10, sc_get 1 0), (13, sc_cst 12), (15, sc_ic_ne 22), (18, sc_cst 1), (19, sc_goto 23), (22, sc_cst 0), (23, sc_retZ)]
noncomputable def st_X1_workCycles : List (Nat × sc_EN) := [(0, sc_ldA 0), (1, sc_get 1 0), (4, sc_cst 7), (6, sc_ic_ne 11), (9, sc_cst 3), (10, sc_retI), (11, sc_ldA 0), (12, sc_get 1 0), (15, sc_cst 8), (17, sc_ic_ne 25), (20, sc_cst 6), (22, sc_goto 26), (25, sc_cst 1), (26, sc_retI)]
noncomputable def st_X2_checkIndex : List (Nat × sc_EN) := [(0, sc_ldI 0), (1, sc_if_lt 9), (4, sc_ldI 0), (5, sc_ldI 1), (6, sc_ic_lt 19), (9, sc_bad), (12, sc_dup), (13, sc_bad), (15, sc_bad), (18, sc_bad), (19, sc_retV)]
noncomputable def st_X2_checkArgument : List (Nat × sc_EN) := [(0, sc_ldI 0), (1, sc_ldI 1), (2, sc_ic_lt 10), (5, sc_ldI 0), (6, sc_ldI 2), (7, sc_ic_le 20), (10, sc_bad), (13, sc_dup), (14, sc_bad), (16, sc_bad), (19, sc_bad), (20, sc_retV)]
noncomputable def st_X2_poke : List (Nat × sc_EN) := [(0, sc_ldI 1), (1, sc_cst 32), (3, sc_ins 8 2), (6, sc_ldA 0), (7, sc_get 2 2), (10, sc_ldI 1), (11, sc_ald), (12, sc_stI 3), (13, sc_ldA 0), (14, sc_get 2 2), (17, sc_ldI 1), (18, sc_ldI 2), (19, sc_ast), (20, sc_ldI 3), (21, sc_retI)]
noncomputable def st_X2_peek : List (Nat × sc_EN) := [(0, sc_ldI 1), (1, sc_cst 32), (3, sc_ins 8 2), (6, sc_ldA 0), (7, sc_get 2 2), (10, sc_ldI 1), (11, sc_ald), (12, sc_retI)]
noncomputable def st_X2_set : List (Nat × sc_EN) := [(0, sc_ldI 1), (1, sc_cst 16), (3, sc_ins 8 2), (6, sc_ldI 1), (7, sc_if_ne 20), (10, sc_bad), (13, sc_dup), (14, sc_bad), (16, sc_bad), (19, sc_bad), (20, sc_ldA 0), (21, sc_get 2 3), (24, sc_ldI 1), (25, sc_ald), (26, sc_stI 3), (27, sc_ldA 0), (28, sc_get 2 3), (31, sc_ldI 1), (32, sc_ldI 2), (33, sc_ast), (34, sc_ldI 3), (35, sc_retI)]
noncomputable def st_X2_register : List (Nat × sc_EN) := [(0, sc_ldI 1), (1, sc_cst 16), (3, sc_ins 8 2), (6, sc_ldA 0), (7, sc_get 2 3), (10, sc_ldI 1), (11, sc_ald), (12, sc_retI)]
noncomputable def st_X2_emptyStagesBelow : List (Nat × sc_EN) := [(0, sc_cst 0), (1, sc_stI 2), (2, sc_ldI 2), (3, sc_ldI 1), (4, sc_ic_ge 23), (7, sc_ldA 0), (8, sc_get 2 5), (11, sc_ldI 2), (12, sc_fld), (13, sc_cst 0), (14, sc_putZ 0 0), (17, sc_inc 2 1), (20, sc_goto 2), (23, sc_retV)]
noncomputable def st_X2_start : List (Nat × sc_EN) := [(0, sc_ldI 1), (1, sc_cst 64), (3, sc_ins 8 2), (6, sc_ldA 0), (7, sc_cst 5), (8, sc_inv 14 2 2), (11, sc_ldA 0), (12, sc_ldI 1), (13, sc_putI 2 7), (16, sc_ldA 0), (17, sc_cst 0), (18, sc_putZ 2 11), (21, sc_retV)]
noncomputable def st_X2_handler : List (Nat × sc_EN) := [(0, sc_ldI 1), (1, sc_cst 64), (3, sc_ins 8 2), (6, sc_ldA 0), (7, sc_get 2 8), (10, sc_stI 2), (11, sc_ldA 0), (12, sc_ldI 1), (13, sc_putI 2 8), (16, sc_ldI 2), (17, sc_retI)]
noncomputable def st_X2_takeFault : List (Nat × sc_EN) := [(0, sc_ldA 0), (1, sc_dup), (2, sc_get 2 16), (5, sc_cst 1), (6, sc_iadd), (7, sc_putI 2 16), (10, sc_ldA 0), (11, sc_ldA 1), (12, sc_get 0 5), (15, sc_putI 2 9), (18, sc_ldA 0), (19, sc_ldA 1), (20, sc_get 0 2), (23, sc_putI 2 10), (26, sc_ldA 0), (27, sc_cst 5), (28, sc_inv 14 2 2), (31, sc_ldA 0), (32, sc_ldA 0), (33, sc_get 2 8), (36, sc_putI 2 7), (39, sc_retV)]
noncomputable def st_X2_retire : List (Nat × sc_EN) := [(0, sc_ldA 1), (1, sc_get 0 1), (4, sc_get 1 1), (7, sc_stI 2), (8, sc_ldA 1), (9, sc_ldI 2), (10, sc_inv 2 0 2), (13, sc_if_eq 26), (16, sc_ldA 0), (17, sc_get 2 3), (20, sc_ldI 2), (21, sc_ldA 1), (22, sc_get 0 7), (25, sc_ast), (26, sc_ldA 0), (27, sc_get 2 6), (30, sc_ldA 0), (31, sc_get 2 13), (34, sc_cst 16), (36, sc_ins 28 2), (39, sc_ldA 1), (40, sc_get 0 2), (43, sc_ast), (44, sc_ldA 0), (45, sc_dup), (46, sc_get 2 13), (49, sc_cst 1), (50, sc_iadd), (51, sc_putI 2 13), (54, sc_ldA 1), (55, sc_cst 0), (56, sc_putZ 0 0), (59, sc_retV)]
noncomputable def st_X2_leaveEndsCycle : List (Nat × sc_EN) := [(0, sc_ldA 1), (1, sc_get 0 0), (4, sc_if_ne 9), (7, sc_cst 0), (8, sc_retZ), (9, sc_ldA 1), (10, sc_get 0 5), (13, sc_if_eq 23), (16, sc_ldA 0), (17, sc_ldA 1), (18, sc_inv 17 2 2), (21, sc_cst 1), (22, sc_retZ), (23, sc_ldA 1), (24, sc_cst 18), (26, sc_inv 0 0 2), (29, sc_if_eq 44), (32, sc_ldA 0), (33, sc_cst 5), (34, sc_inv 14 2 2), (37, sc_ldA 0), (38, sc_cst 1), (39, sc_putZ 2 11), (42, sc_cst 1), (43, sc_retZ), (44, sc_ldA 0), (45, sc_ldA 1), (46, sc_inv 18 2 2), (49, sc_cst 0), (50, sc_retZ)]
noncomputable def st_X2_moveOnIfFree : List (Nat × sc_EN) := [(0, sc_ldA 0), (1, sc_get 2 5), (4, sc_ldI 1), (5, sc_cst 1), (6, sc_iadd), (7, sc_fld), (8, sc_get 0 0), (11, sc_if_ne 44), (14, sc_ldA 0), (15, sc_get 2 5), (18, sc_ldI 1), (19, sc_fld), (20, sc_stA 0 2), (21, sc_ldA 0), (22, sc_get 2 5), (25, sc_ldI 1), (26, sc_ldA 0), (27, sc_get 2 5), (30, sc_ldI 1), (31, sc_cst 1), (32, sc_iadd), (33, sc_fld), (34, sc_fst), (35, sc_ldA 0), (36, sc_get 2 5), (39, sc_ldI 1), (40, sc_cst 1), (41, sc_iadd), (42, sc_ldA 2), (43, sc_fst), (44, sc_retV)]
noncomputable def st_X2_passMemory : List (Nat × sc_EN) := [(0, sc_ldA 1), (1, sc_cst 11), (3, sc_inv 0 0 2), (6, sc_if_eq 25), (9, sc_ldA 1), (10, sc_ldA 0), (11, sc_get 2 2), (14, sc_ldA 1), (15, sc_get 0 6), (18, sc_ald), (19, sc_putI 0 7), (22, sc_goto 47), (25, sc_ldA 1), (26, sc_cst 12), (28, sc_inv 0 0 2), (31, sc_if_eq 47), (34, sc_ldA 0), (35, sc_get 2 2), (38, sc_ldA 1), (39, sc_get 0 6), (42, sc_ldA 1), (43, sc_get 0 7), (46, sc_ast), (47, sc_ldA 0), (48, sc_cst 3), (49, sc_inv 20 2 2), (52, sc_retV)]
noncomputable def st_X2_needsLoadAhead : List (Nat × sc_EN) := [(0, sc_ldA 0), (1, sc_get 2 5), (4, sc_cst 4), (5, sc_fld), (6, sc_stA 0 2), (7, sc_ldA 2), (8, sc_cst 11), (10, sc_inv 0 0 2), (13, sc_if_ne 18), (16, sc_cst 0), (17, sc_retZ), (18, sc_ldA 1), (19, sc_inv 5 1 1), (22, sc_if_eq 36), (25, sc_ldA 2), (26, sc_ldA 1), (27, sc_get 1 2), (30, sc_inv 2 0 2), (33, sc_if_ne 54), (36, sc_ldA 1), (37, sc_inv 4 1 1), (40, sc_if_eq 58), (43, sc_ldA 2), (44, sc_ldA 1), (45, sc_get 1 3), (48, sc_inv 2 0 2), (51, sc_if_eq 58), (54, sc_cst 1), (55, sc_goto 59), (58, sc_cst 0), (59, sc_retZ)]
noncomputable def st_X2_handedOn : List (Nat × sc_EN) := [(0, sc_ldA 0), (1, sc_get 2 5), (4, sc_cst 4), (5, sc_fld), (6, sc_stA 0 2), (7, sc_ldA 2), (8, sc_ldI 1), (9, sc_inv 2 0 2), (12, sc_if_eq 22), (15, sc_ldA 2), (16, sc_get 0 7), (19, sc_goto 28), (22, sc_ldA 0), (23, sc_get 2 3), (26, sc_ldI 1), (27, sc_ald), (28, sc_retI)]
noncomputable def st_X2_isWord : List (Nat × sc_EN) := [(0, sc_ldI 0), (1, sc_if_lt 14), (4, sc_ldI 0), (5, sc_cst 32), (7, sc_ic_ge 14), (10, sc_cst 1), (11, sc_goto 15), (14, sc_cst 0), (15, sc_retZ)]
noncomputable def st_X2_faultOf : List (Nat × sc_EN) := [(0, sc_ldA 0), (1, sc_get 1 0), (4, sc_cst 17), (6, sc_ic_ne 11), (9, sc_cst 2), (10, sc_retI), (11, sc_ldA 0), (12, sc_inv 6 1 1), (15, sc_if_eq 32), (18, sc_ldI 1), (19, sc_ldA 0), (20, sc_get 1 4), (23, sc_iadd), (24, sc_ins 24 1), (27, sc_if_ne 32), (30, sc_cst 3), (31, sc_retI), (32, sc_ldA 0), (33, sc_get 1 0), (36, sc_cst 8), (38, sc_ic_ne 49), (41, sc_ldI 2), (42, sc_if_ne 49), (45, sc_cst 4), (46, sc_goto 50), (49, sc_cst 0), (50, sc_retI)]
noncomputable def st_X2_valueOf : List (Nat × sc_EN) := [(0, sc_ldA 0), (1, sc_get 0 1), (4, sc_get 1 0), (7, sc_sw [(0, 88), (1, 92), (2, 96), (3, 100), (4, 104), (5, 108), (6, 115), (7, 126), (8, 130), (9, 142), (10, 152), (11, 176), (12, 160), (13, 176), (14, 176), (15, 162), (16, 169)] 176), (88, sc_ldI 1), (89, sc_ldI 2), (90, sc_iadd), (91, sc_retI), (92, sc_ldI 1), (93, sc_ldI 2), (94, sc_isub), (95, sc_retI), (96, sc_ldI 1), (97, sc_ldI 2), (98, sc_iand), (99, sc_retI), (100, sc_ldI 1), (101, sc_ldI 2), (102, sc_ior), (103, sc_retI), (104, sc_ldI 1), (105, sc_ldI 2), (106, sc_ixor), (107, sc_retI), (108, sc_ldI 1), (109, sc_ldI 2), (110, sc_cst 31), (112, sc_iand), (113, sc_ishl), (114, sc_retI), (115, sc_ldI 1), (116, sc_ldI 2), (117, sc_ic_ge 124), (120, sc_cst 1), (121, sc_goto 125), (124, sc_cst 0), (125, sc_retI), (126, sc_ldI 1), (127, sc_ldI 2), (128, sc_imul), (129, sc_retI), (130, sc_ldI 2), (131, sc_if_ne 138), (134, sc_cst 0), (135, sc_goto 141), (138, sc_ldI 1), (139, sc_ldI 2), (140, sc_idiv), (141, sc_retI), (142, sc_ldI 1), (143, sc_ldA 0), (144, sc_get 0 1), (147, sc_get 1 4), (150, sc_iadd), (151, sc_retI), (152, sc_ldA 0), (153, sc_get 0 1), (156, sc_get 1 4), (159, sc_retI), (160, sc_ldI 2), (161, sc_retI), (162, sc_ldA 0), (163, sc_get 0 2), (166, sc_cst 1), (167, sc_iadd), (168, sc_retI), (169, sc_ldA 0), (170, sc_get 0 2), (173, sc_cst 1), (174, sc_iadd), (175, sc_retI), (176, sc_cst 0), (177, sc_retI)]
noncomputable def st_X2_goesElsewhere : List (Nat × sc_EN) := [(0, sc_ldI 0), (1, sc_sw [(13, 32), (14, 43), (15, 54), (16, 56)] 58), (32, sc_ldI 1), (33, sc_ldI 2), (34, sc_ic_ne 41), (37, sc_cst 1), (38, sc_goto 42), (41, sc_cst 0), (42, sc_retZ), (43, sc_ldI 1), (44, sc_ldI 2), (45, sc_ic_eq 52), (48, sc_cst 1), (49, sc_goto 53), (52, sc_cst 0), (53, sc_retZ), (54, sc_cst 1), (55, sc_retZ), (56, sc_cst 1), (57, sc_retZ), (58, sc_cst 0), (59, sc_retZ)]
noncomputable def st_J9_floorMod_7cf53 : List (Nat × sc_EN) := [(0, sc_ldI 0), (1, sc_ldI 1), (2, sc_irem), (3, sc_stI 2), (4, sc_ldI 0), (5, sc_ldI 1), (6, sc_ixor), (7, sc_if_ge 18), (10, sc_ldI 2), (11, sc_if_eq 18), (14, sc_ldI 2), (15, sc_ldI 1), (16, sc_iadd), (17, sc_retI), (18, sc_ldI 2), (19, sc_retI)]
noncomputable def st_X2_learn : List (Nat × sc_EN) := [(0, sc_ldI 1), (1, sc_cst 8), (3, sc_ins 28 2), (6, sc_stI 3), (7, sc_ldA 0), (8, sc_get 2 4), (11, sc_ldI 3), (12, sc_ald), (13, sc_ldI 2), (14, sc_if_eq 21), (17, sc_cst 1), (18, sc_goto 22), (21, sc_cst (-1)), (22, sc_iadd), (23, sc_stI 4), (25, sc_ldA 0), (26, sc_get 2 4), (29, sc_ldI 3), (30, sc_cst 0), (31, sc_cst 3), (32, sc_ldI 4), (34, sc_ins 71 2), (37, sc_ins 70 2), (40, sc_ast), (41, sc_retV)]
noncomputable def st_X2_target : List (Nat × sc_EN) := [(0, sc_ldA 0), (1, sc_get 0 1), (4, sc_get 1 0), (7, sc_cst 16), (9, sc_ic_ne 16), (12, sc_ldI 1), (13, sc_goto 20), (16, sc_ldA 0), (17, sc_get 0 2), (20, sc_stI 2), (21, sc_ldI 2), (22, sc_ldA 0), (23, sc_get 0 1), (26, sc_get 1 4), (29, sc_iadd), (30, sc_retI)]
noncomputable def st_X2_holdAgainstGuess : List (Nat × sc_EN) := [(0, sc_ldI 2), (1, sc_ldA 1), (2, sc_get 0 3), (5, sc_ic_eq 28), (8, sc_ldA 0), (9, sc_dup), (10, sc_get 2 15), (13, sc_cst 1), (14, sc_iadd), (15, sc_putI 2 15), (18, sc_ldA 0), (19, sc_cst 2), (20, sc_inv 14 2 2), (23, sc_ldA 0), (24, sc_ldI 2), (25, sc_putI 2 7), (28, sc_retV)]
noncomputable def st_X2_finishWork : List (Nat × sc_EN) := [(0, sc_ldA 0), (1, sc_ldA 1), (2, sc_get 0 1), (5, sc_get 1 2), (8, sc_inv 23 2 2), (11, sc_stI 2), (12, sc_ldA 0), (13, sc_ldA 1), (14, sc_get 0 1), (17, sc_get 1 3), (20, sc_inv 23 2 2), (23, sc_stI 3), (24, sc_ldA 1), (25, sc_get 0 5), (28, sc_if_ne 44), (31, sc_ldA 1), (32, sc_ldA 1), (33, sc_get 0 1), (36, sc_ldI 2), (37, sc_ldI 3), (38, sc_ins 25 3), (41, sc_putI 0 5), (44, sc_ldA 1), (45, sc_get 0 5), (48, sc_if_eq 52), (51, sc_retV), (52, sc_ldA 1), (53, sc_ldA 1), (54, sc_ldI 2), (55, sc_ldI 3), (56, sc_ins 26 3), (59, sc_putI 0 7), (62, sc_ldA 1), (63, sc_ldA 1), (64, sc_get 0 1), (67, sc_inv 6 1 1), (70, sc_if_eq 85), (73, sc_ldI 2), (74, sc_ldA 1), (75, sc_get 0 1), (78, sc_get 1 4), (81, sc_iadd), (82, sc_goto 86), (85, sc_cst 0), (86, sc_putI 0 6), (89, sc_ldA 1), (90, sc_get 0 1), (93, sc_get 1 0), (96, sc_ldI 2), (97, sc_ldI 3), (98, sc_ins 27 3), (101, sc_stI 4), (103, sc_ldA 1), (104, sc_get 0 1), (107, sc_inv 3 1 1), (110, sc_if_eq 123), (113, sc_ldA 0), (114, sc_ldA 1), (115, sc_get 0 2), (118, sc_ldI 4), (120, sc_inv 29 2 3), (123, sc_ldA 0), (124, sc_ldA 1), (125, sc_ldI 4), (127, sc_if_eq 138), (130, sc_ldA 1), (131, sc_ldI 2), (132, sc_ins 30 2), (135, sc_goto 144), (138, sc_ldA 1), (139, sc_get 0 2), (142, sc_cst 1), (143, sc_iadd), (144, sc_inv 31 2 3), (147, sc_retV)]
noncomputable def st_X2_workInReached : List (Nat × sc_EN) := [(0, sc_ldA 1), (1, sc_get 0 0), (4, sc_if_ne 8), (7, sc_retV), (8, sc_ldA 0), (9, sc_ldA 1), (10, sc_get 0 1), (13, sc_inv 22 2 2), (16, sc_if_eq 30), (19, sc_ldA 0), (20, sc_dup), (21, sc_get 2 14), (24, sc_cst 1), (25, sc_iadd), (26, sc_putI 2 14), (29, sc_retV), (30, sc_ldA 1), (31, sc_dup), (32, sc_get 0 4), (35, sc_cst 1), (36, sc_iadd), (37, sc_putI 0 4), (40, sc_ldA 1), (41, sc_get 0 4), (44, sc_ldA 1), (45, sc_get 0 1), (48, sc_inv 7 1 1), (51, sc_ic_ge 65), (54, sc_ldA 0), (55, sc_dup), (56, sc_get 2 14), (59, sc_cst 1), (60, sc_iadd), (61, sc_putI 2 14), (64, sc_retV), (65, sc_ldA 0), (66, sc_ldA 1), (67, sc_inv 32 2 2), (70, sc_ldA 0), (71, sc_cst 2), (72, sc_inv 20 2 2), (75, sc_retV)]
noncomputable def st_X2_guessNext : List (Nat × sc_EN) := [(0, sc_ldA 1), (1, sc_get 1 0), (4, sc_cst 15), (6, sc_ic_eq 31), (9, sc_ldA 1), (10, sc_inv 3 1 1), (13, sc_if_eq 35), (16, sc_ldA 0), (17, sc_get 2 4), (20, sc_ldI 2), (21, sc_cst 8), (23, sc_ins 28 2), (26, sc_ald), (27, sc_cst 2), (28, sc_ic_lt 35), (31, sc_cst 1), (32, sc_goto 36), (35, sc_cst 0), (36, sc_stI 3), (37, sc_ldI 3), (38, sc_if_eq 50), (41, sc_ldI 2), (42, sc_ldA 1), (43, sc_get 1 4), (46, sc_iadd), (47, sc_goto 53), (50, sc_ldI 2), (51, sc_cst 1), (52, sc_iadd), (53, sc_retI)]
noncomputable def st_X2_fetchIfFree : List (Nat × sc_EN) := [(0, sc_ldA 1), (1, sc_get 0 0), (4, sc_if_eq 8), (7, sc_retV), (8, sc_ldA 0), (9, sc_get 2 7), (12, sc_if_lt 28), (15, sc_ldA 0), (16, sc_get 2 7), (19, sc_cst 64), (21, sc_ic_ge 28), (24, sc_cst 1), (25, sc_goto 29), (28, sc_cst 0), (29, sc_stI 2), (30, sc_ldA 1), (31, sc_cst 1), (32, sc_putZ 0 0), (35, sc_ldA 1), (36, sc_ldA 0), (37, sc_get 2 7), (40, sc_putI 0 2), (43, sc_ldA 1), (44, sc_ldI 2), (45, sc_if_eq 60), (48, sc_ldA 0), (49, sc_get 2 1), (52, sc_ldA 0), (53, sc_get 2 7), (56, sc_nld), (57, sc_goto 64), (60, sc_ldA 0), (61, sc_get 2 0), (64, sc_putN), (67, sc_ldA 1), (68, sc_ldI 2), (69, sc_if_eq 76), (72, sc_cst 0), (73, sc_goto 77), (76, sc_cst 1), (77, sc_putI 0 5), (80, sc_ldA 1), (81, sc_cst 0), (82, sc_putI 0 4), (85, sc_ldA 1), (86, sc_cst 0), (87, sc_putI 0 6), (90, sc_ldA 1), (91, sc_cst 0), (92, sc_putI 0 7), (95, sc_ldA 1), (96, sc_ldA 0), (97, sc_ldA 1), (98, sc_get 0 1), (101, sc_ldA 0), (102, sc_get 2 7), (105, sc_inv 34 2 3), (108, sc_putI 0 3), (111, sc_ldA 0), (112, sc_ldA 1), (113, sc_get 0 3), (116, sc_putI 2 7), (119, sc_retV)]
noncomputable def st_X2_runCycle : List (Nat × sc_EN) := [(0, sc_ldA 0), (1, sc_dup), (2, sc_get 2 12), (5, sc_cst 1), (6, sc_iadd), (7, sc_putI 2 12), (10, sc_ldA 0), (11, sc_ldA 0), (12, sc_get 2 5), (15, sc_cst 4), (16, sc_fld), (17, sc_inv 19 2 2), (20, sc_if_eq 24), (23, sc_retV), (24, sc_ldA 0), (25, sc_ldA 0), (26, sc_get 2 5), (29, sc_cst 3), (30, sc_fld), (31, sc_inv 21 2 2), (34, sc_ldA 0), (35, sc_ldA 0), (36, sc_get 2 5), (39, sc_cst 2), (40, sc_fld), (41, sc_inv 33 2 2), (44, sc_ldA 0), (45, sc_cst 1), (46, sc_inv 20 2 2), (49, sc_ldA 0), (50, sc_cst 0), (51, sc_inv 20 2 2), (54, sc_ldA 0), (55, sc_ldA 0), (56, sc_get 2 5), (59, sc_cst 0), (60, sc_fld), (61, sc_inv 35 2 2), (64, sc_retV)]
noncomputable def st_X2_cycles : List (Nat × sc_EN) := [(0, sc_ldI 1), (1, sc_cst 1), (2, sc_cst 300), (5, sc_ins 9 3), (8, sc_ldA 0), (9, sc_get 2 13), (12, sc_stI 2), (13, sc_cst 0), (14, sc_stI 3), (15, sc_ldI 3), (16, sc_ldI 1), (17, sc_ic_ge 37), (20, sc_ldA 0), (21, sc_get 2 11), (24, sc_if_ne 37), (27, sc_ldA 0), (28, sc_inv 36 2 1), (31, sc_inc 3 1), (34, sc_goto 15), (37, sc_ldA 0), (38, sc_get 2 13), (41, sc_ldI 2), (42, sc_isub), (43, sc_retI)]
noncomputable def st_X2_stage : List (Nat × sc_EN) := [(0, sc_ldI 1), (1, sc_cst 5), (2, sc_ins 8 2), (5, sc_ldA 0), (6, sc_get 2 5), (9, sc_ldI 1), (10, sc_fld), (11, sc_stA 0 2), (12, sc_ldA 2), (13, sc_get 0 0), (16, sc_if_eq 26), (19, sc_ldA 2), (20, sc_get 0 2), (23, sc_goto 27), (26, sc_cst (-1)), (27, sc_retI)]
noncomputable def st_X2_counter : List (Nat × sc_EN) := [(0, sc_ldI 1), (1, sc_cst 8), (3, sc_ins 8 2), (6, sc_ldA 0), (7, sc_get 2 4), (10, sc_ldI 1), (11, sc_ald), (12, sc_retI)]
noncomputable def st_X2_retired : List (Nat × sc_EN) := [(0, sc_ldI 1), (1, sc_ldA 0), (2, sc_get 2 13), (5, sc_cst 16), (7, sc_ins 71 2), (10, sc_ins 8 2), (13, sc_ldA 0), (14, sc_get 2 6), (17, sc_ldA 0), (18, sc_get 2 13), (21, sc_cst 1), (22, sc_isub), (23, sc_ldI 1), (24, sc_isub), (25, sc_cst 16), (27, sc_irem), (28, sc_ald), (29, sc_retI)]
noncomputable def st_X2_count : List (Nat × sc_EN) := [(0, sc_ldI 1), (1, sc_sw [(0, 52), (1, 57), (2, 62), (3, 67), (4, 72), (5, 77), (6, 82), (7, 87), (8, 92)] 105), (52, sc_ldA 0), (53, sc_get 2 12), (56, sc_retI), (57, sc_ldA 0), (58, sc_get 2 13), (61, sc_retI), (62, sc_ldA 0), (63, sc_get 2 14), (66, sc_retI), (67, sc_ldA 0), (68, sc_get 2 15), (71, sc_retI), (72, sc_ldA 0), (73, sc_get 2 16), (76, sc_retI), (77, sc_ldA 0), (78, sc_get 2 7), (81, sc_retI), (82, sc_ldA 0), (83, sc_get 2 9), (86, sc_retI), (87, sc_ldA 0), (88, sc_get 2 10), (91, sc_retI), (92, sc_ldA 0), (93, sc_get 2 11), (96, sc_if_eq 103), (99, sc_cst 1), (100, sc_goto 104), (103, sc_cst 0), (104, sc_retI), (105, sc_bad), (108, sc_dup), (109, sc_bad), (111, sc_bad), (114, sc_bad)]
noncomputable def st_X3_thrown : List (Nat × sc_EN) := [(0, sc_ldA 0), (1, sc_get 3 0), (4, sc_retI)]
noncomputable def st_X3_out : List (Nat × sc_EN) := [(0, sc_ldA 0), (1, sc_ldI 1), (2, sc_ldI 2), (3, sc_ic_lt 15), (6, sc_ldI 1), (7, sc_ldI 3), (8, sc_ic_gt 15), (11, sc_cst 0), (12, sc_goto 16), (15, sc_cst 1), (16, sc_putI 3 0), (19, sc_ldA 0), (20, sc_get 3 0), (23, sc_if_le 30), (26, sc_cst 1), (27, sc_goto 31), (30, sc_cst 0), (31, sc_retZ)]
noncomputable def st_X3_in : List (Nat × sc_EN) := [(0, sc_ldI 0), (1, sc_ldI 1), (2, sc_ic_lt 14), (5, sc_ldI 0), (6, sc_ldI 2), (7, sc_ic_gt 14), (10, sc_cst 1), (11, sc_goto 15), (14, sc_cst 0), (15, sc_retZ)]
noncomputable def st_X3_put : List (Nat × sc_EN) := [(0, sc_ldA 0), (1, sc_ldI 1), (2, sc_cst 0), (3, sc_cst 63), (5, sc_inv 43 3 4), (8, sc_if_eq 12), (11, sc_retV), (12, sc_ldI 2), (13, sc_cst 0), (14, sc_cst 19), (16, sc_ins 44 3), (19, sc_if_eq 66), (22, sc_ldI 3), (23, sc_cst 0), (24, sc_cst 15), (26, sc_ins 44 3), (29, sc_if_eq 66), (32, sc_ldI 4), (34, sc_cst 0), (35, sc_cst 15), (37, sc_ins 44 3), (40, sc_if_eq 66), (43, sc_ldI 5), (45, sc_cst 0), (46, sc_cst 15), (48, sc_ins 44 3), (51, sc_if_eq 66), (54, sc_ldI 6), (56, sc_cst (-64)), (58, sc_cst 63), (60, sc_ins 44 3), (63, sc_if_ne 72), (66, sc_ldA 0), (67, sc_cst 2), (68, sc_putI 3 0), (71, sc_retV), (72, sc_ldA 0), (73, sc_get 3 1), (76, sc_ldI 1), (77, sc_ldI 2), (78, sc_ast), (79, sc_ldA 0), (80, sc_get 3 2), (83, sc_ldI 1), (84, sc_ldI 3), (85, sc_ast), (86, sc_ldA 0), (87, sc_get 3 3), (90, sc_ldI 1), (91, sc_ldI 4), (93, sc_ast), (94, sc_ldA 0), (95, sc_get 3 4), (98, sc_ldI 1), (99, sc_ldI 5), (101, sc_ast), (102, sc_ldA 0), (103, sc_get 3 5), (106, sc_ldI 1), (107, sc_ldI 6), (109, sc_ast), (110, sc_retV)]
noncomputable def st_X3_poke : List (Nat × sc_EN) := [(0, sc_ldA 0), (1, sc_ldI 1), (2, sc_cst 0), (3, sc_cst 31), (5, sc_inv 43 3 4), (8, sc_if_eq 13), (11, sc_cst 0), (12, sc_retI), (13, sc_ldA 0), (14, sc_get 3 6), (17, sc_ldI 1), (18, sc_ald), (19, sc_stI 3), (20, sc_ldA 0), (21, sc_get 3 6), (24, sc_ldI 1), (25, sc_ldI 2), (26, sc_ast), (27, sc_ldI 3), (28, sc_retI)]
noncomputable def st_X3_peek : List (Nat × sc_EN) := [(0, sc_ldA 0), (1, sc_ldI 1), (2, sc_cst 0), (3, sc_cst 31), (5, sc_inv 43 3 4), (8, sc_if_eq 15), (11, sc_cst 0), (12, sc_goto 21), (15, sc_ldA 0), (16, sc_get 3 6), (19, sc_ldI 1), (20, sc_ald), (21, sc_retI)]
noncomputable def st_X3_set : List (Nat × sc_EN) := [(0, sc_ldA 0), (1, sc_ldI 1), (2, sc_cst 1), (3, sc_cst 15), (5, sc_inv 43 3 4), (8, sc_if_eq 13), (11, sc_cst 0), (12, sc_retI), (13, sc_ldA 0), (14, sc_get 3 7), (17, sc_ldI 1), (18, sc_ald), (19, sc_stI 3), (20, sc_ldA 0), (21, sc_get 3 7), (24, sc_ldI 1), (25, sc_ldI 2), (26, sc_ast), (27, sc_ldI 3), (28, sc_retI)]
noncomputable def st_X3_register : List (Nat × sc_EN) := [(0, sc_ldA 0), (1, sc_ldI 1), (2, sc_cst 0), (3, sc_cst 15), (5, sc_inv 43 3 4), (8, sc_if_eq 15), (11, sc_cst 0), (12, sc_goto 21), (15, sc_ldA 0), (16, sc_get 3 7), (19, sc_ldI 1), (20, sc_ald), (21, sc_retI)]
noncomputable def st_X3_empty : List (Nat × sc_EN) := [(0, sc_cst 0), (1, sc_stI 1), (2, sc_ldI 1), (3, sc_cst 5), (4, sc_ic_ge 20), (7, sc_ldA 0), (8, sc_get 3 9), (11, sc_ldI 1), (12, sc_cst 0), (13, sc_zst), (14, sc_inc 1 1), (17, sc_goto 2), (20, sc_retV)]
noncomputable def st_X3_start : List (Nat × sc_EN) := [(0, sc_ldA 0), (1, sc_ldI 1), (2, sc_cst 0), (3, sc_cst 63), (5, sc_inv 43 3 4), (8, sc_if_eq 12), (11, sc_retV), (12, sc_ldA 0), (13, sc_inv 50 3 1), (16, sc_ldA 0), (17, sc_ldI 1), (18, sc_putI 3 21), (21, sc_ldA 0), (22, sc_cst 0), (23, sc_putZ 3 25), (26, sc_retV)]
noncomputable def st_X3_handler : List (Nat × sc_EN) := [(0, sc_ldA 0), (1, sc_ldI 1), (2, sc_cst 0), (3, sc_cst 63), (5, sc_inv 43 3 4), (8, sc_if_eq 13), (11, sc_cst 0), (12, sc_retI), (13, sc_ldA 0), (14, sc_get 3 22), (17, sc_stI 2), (18, sc_ldA 0), (19, sc_ldI 1), (20, sc_putI 3 22), (23, sc_ldI 2), (24, sc_retI)]
noncomputable def st_X3_writes : List (Nat × sc_EN) := [(0, sc_ldI 0), (1, sc_cst 0), (2, sc_cst 11), (4, sc_ins 44 3), (7, sc_if_ne 22), (10, sc_ldI 0), (11, sc_cst 15), (13, sc_ic_eq 22), (16, sc_ldI 0), (17, sc_cst 16), (19, sc_ic_ne 26), (22, sc_cst 1), (23, sc_goto 27), (26, sc_cst 0), (27, sc_retZ)]
noncomputable def st_X3_usesFirst : List (Nat × sc_EN) := [(0, sc_ldI 0), (1, sc_cst 0), (2, sc_cst 9), (4, sc_ins 44 3), (7, sc_if_ne 27), (10, sc_ldI 0), (11, sc_cst 11), (13, sc_cst 14), (15, sc_ins 44 3), (18, sc_if_ne 27), (21, sc_ldI 0), (22, sc_cst 16), (24, sc_ic_ne 31), (27, sc_cst 1), (28, sc_goto 32), (31, sc_cst 0), (32, sc_retZ)]
noncomputable def st_X3_usesSecond : List (Nat × sc_EN) := [(0, sc_ldI 0), (1, sc_cst 0), (2, sc_cst 8), (4, sc_ins 44 3), (7, sc_if_ne 21), (10, sc_ldI 0), (11, sc_cst 12), (13, sc_cst 14), (15, sc_ins 44 3), (18, sc_if_eq 25), (21, sc_cst 1), (22, sc_goto 26), (25, sc_cst 0), (26, sc_retZ)]
noncomputable def st_X3_move : List (Nat × sc_EN) := [(0, sc_ldI 1), (1, sc_cst 1), (2, sc_iadd), (3, sc_stI 2), (4, sc_ldA 0), (5, sc_get 3 9), (8, sc_ldI 2), (9, sc_cst 1), (10, sc_zst), (11, sc_ldA 0), (12, sc_get 3 9), (15, sc_ldI 1), (16, sc_cst 0), (17, sc_zst), (18, sc_ldA 0), (19, sc_get 3 10), (22, sc_ldI 2), (23, sc_ldA 0), (24, sc_get 3 10), (27, sc_ldI 1), (28, sc_ald), (29, sc_ast), (30, sc_ldA 0), (31, sc_get 3 11), (34, sc_ldI 2), (35, sc_ldA 0), (36, sc_get 3 11), (39, sc_ldI 1), (40, sc_ald), (41, sc_ast), (42, sc_ldA 0), (43, sc_get 3 12), (46, sc_ldI 2), (47, sc_ldA 0), (48, sc_get 3 12), (51, sc_ldI 1), (52, sc_ald), (53, sc_ast), (54, sc_ldA 0), (55, sc_get 3 13), (58, sc_ldI 2), (59, sc_ldA 0), (60, sc_get 3 13), (63, sc_ldI 1), (64, sc_ald), (65, sc_ast), (66, sc_ldA 0), (67, sc_get 3 14), (70, sc_ldI 2), (71, sc_ldA 0), (72, sc_get 3 14), (75, sc_ldI 1), (76, sc_ald), (77, sc_ast), (78, sc_ldA 0), (79, sc_get 3 15), (82, sc_ldI 2), (83, sc_ldA 0), (84, sc_get 3 15), (87, sc_ldI 1), (88, sc_ald), (89, sc_ast), (90, sc_ldA 0), (91, sc_get 3 16), (94, sc_ldI 2), (95, sc_ldA 0), (96, sc_get 3 16), (99, sc_ldI 1), (100, sc_ald), (101, sc_ast), (102, sc_ldA 0), (103, sc_get 3 17), (106, sc_ldI 2), (107, sc_ldA 0), (108, sc_get 3 17), (111, sc_ldI 1), (112, sc_ald), (113, sc_ast), (114, sc_ldA 0), (115, sc_get 3 18), (118, sc_ldI 2), (119, sc_ldA 0), (120, sc_get 3 18), (123, sc_ldI 1), (124, sc_ald), (125, sc_ast), (126, sc_ldA 0), (127, sc_get 3 19), (130, sc_ldI 2), (131, sc_ldA 0), (132, sc_get 3 19), (135, sc_ldI 1), (136, sc_ald), (137, sc_ast), (138, sc_retV)]
noncomputable def st_X3_leave : List (Nat × sc_EN) := [(0, sc_ldA 0), (1, sc_get 3 9), (4, sc_cst 4), (5, sc_zld), (6, sc_if_ne 11), (9, sc_cst 0), (10, sc_retZ), (11, sc_ldA 0), (12, sc_get 3 9), (15, sc_cst 4), (16, sc_cst 0), (17, sc_zst), (18, sc_ldA 0), (19, sc_get 3 19), (22, sc_cst 4), (23, sc_ald), (24, sc_if_le 71), (27, sc_ldA 0), (28, sc_dup), (29, sc_get 3 30), (32, sc_cst 1), (33, sc_iadd), (34, sc_putI 3 30), (37, sc_ldA 0), (38, sc_ldA 0), (39, sc_get 3 19), (42, sc_cst 4), (43, sc_ald), (44, sc_putI 3 23), (47, sc_ldA 0), (48, sc_ldA 0), (49, sc_get 3 10), (52, sc_cst 4), (53, sc_ald), (54, sc_putI 3 24), (57, sc_ldA 0), (58, sc_ldA 0), (59, sc_get 3 22), (62, sc_putI 3 21), (65, sc_ldA 0), (66, sc_inv 50 3 1), (69, sc_cst 1), (70, sc_retZ), (71, sc_ldA 0), (72, sc_get 3 11), (75, sc_cst 4), (76, sc_ald), (77, sc_cst 18), (79, sc_ic_ne 93), (82, sc_ldA 0), (83, sc_cst 1), (84, sc_putZ 3 25), (87, sc_ldA 0), (88, sc_inv 50 3 1), (91, sc_cst 1), (92, sc_retZ), (93, sc_ldA 0), (94, sc_get 3 11), (97, sc_cst 4), (98, sc_ald), (99, sc_ins 53 1), (102, sc_if_eq 131), (105, sc_ldA 0), (106, sc_get 3 12), (109, sc_cst 4), (110, sc_ald), (111, sc_if_eq 131), (114, sc_ldA 0), (115, sc_get 3 7), (118, sc_ldA 0), (119, sc_get 3 12), (122, sc_cst 4), (123, sc_ald), (124, sc_ldA 0), (125, sc_get 3 17), (128, sc_cst 4), (129, sc_ald), (130, sc_ast), (131, sc_ldA 0), (132, sc_dup), (133, sc_get 3 27), (136, sc_cst 1), (137, sc_iadd), (138, sc_putI 3 27), (141, sc_cst 15), (143, sc_stI 1), (144, sc_ldI 1), (145, sc_if_le 168), (148, sc_ldA 0), (149, sc_get 3 32), (152, sc_ldI 1), (153, sc_ldA 0), (154, sc_get 3 32), (157, sc_ldI 1), (158, sc_cst 1), (159, sc_isub), (160, sc_ald), (161, sc_ast), (162, sc_inc 1 (-1)), (165, sc_goto 144), (168, sc_ldA 0), (169, sc_get 3 32), (172, sc_cst 0), (173, sc_ldA 0), (174, sc_get 3 10), (177, sc_cst 4), (178, sc_ald), (179, sc_ast), (180, sc_ldA 0), (181, sc_ldA 0), (182, sc_get 3 31), (185, sc_cst 16), (187, sc_ic_ge 199), (190, sc_ldA 0), (191, sc_get 3 31), (194, sc_cst 1), (195, sc_iadd), (196, sc_goto 201), (199, sc_cst 16), (201, sc_putI 3 31), (204, sc_cst 0), (205, sc_retZ)]
noncomputable def st_X3_remember : List (Nat × sc_EN) := [(0, sc_ldA 0), (1, sc_get 3 9), (4, sc_cst 3), (5, sc_zld), (6, sc_if_ne 10), (9, sc_retV), (10, sc_ldA 0), (11, sc_cst 3), (12, sc_inv 56 3 2), (15, sc_ldA 0), (16, sc_get 3 19), (19, sc_cst 4), (20, sc_ald), (21, sc_if_ne 52), (24, sc_ldA 0), (25, sc_get 3 11), (28, sc_cst 4), (29, sc_ald), (30, sc_cst 11), (32, sc_ic_ne 52), (35, sc_ldA 0), (36, sc_get 3 17), (39, sc_cst 4), (40, sc_ldA 0), (41, sc_get 3 6), (44, sc_ldA 0), (45, sc_get 3 18), (48, sc_cst 4), (49, sc_ald), (50, sc_ald), (51, sc_ast), (52, sc_ldA 0), (53, sc_get 3 19), (56, sc_cst 4), (57, sc_ald), (58, sc_if_ne 89), (61, sc_ldA 0), (62, sc_get 3 11), (65, sc_cst 4), (66, sc_ald), (67, sc_cst 12), (69, sc_ic_ne 89), (72, sc_ldA 0), (73, sc_get 3 6), (76, sc_ldA 0), (77, sc_get 3 18), (80, sc_cst 4), (81, sc_ald), (82, sc_ldA 0), (83, sc_get 3 17), (86, sc_cst 4), (87, sc_ald), (88, sc_ast), (89, sc_retV)]
noncomputable def st_X3_read : List (Nat × sc_EN) := [(0, sc_ldA 0), (1, sc_get 3 9), (4, sc_cst 4), (5, sc_zld), (6, sc_if_eq 48), (9, sc_ldA 0), (10, sc_get 3 19), (13, sc_cst 4), (14, sc_ald), (15, sc_if_ne 48), (18, sc_ldA 0), (19, sc_get 3 11), (22, sc_cst 4), (23, sc_ald), (24, sc_ins 53 1), (27, sc_if_eq 48), (30, sc_ldA 0), (31, sc_get 3 12), (34, sc_cst 4), (35, sc_ald), (36, sc_ldI 1), (37, sc_ic_ne 48), (40, sc_ldI 1), (41, sc_if_eq 48), (44, sc_cst 1), (45, sc_goto 49), (48, sc_cst 0), (49, sc_stI 2), (50, sc_ldI 2), (51, sc_if_eq 63), (54, sc_ldA 0), (55, sc_get 3 17), (58, sc_cst 4), (59, sc_ald), (60, sc_goto 69), (63, sc_ldA 0), (64, sc_get 3 7), (67, sc_ldI 1), (68, sc_ald), (69, sc_retI)]
noncomputable def st_X3_reckon : List (Nat × sc_EN) := [(0, sc_ldI 0), (1, sc_sw [(0, 48), (1, 52), (2, 56), (3, 60), (4, 64), (5, 68), (6, 75), (7, 86)] 90), (48, sc_ldI 1), (49, sc_ldI 2), (50, sc_iadd), (51, sc_retI), (52, sc_ldI 1), (53, sc_ldI 2), (54, sc_isub), (55, sc_retI), (56, sc_ldI 1), (57, sc_ldI 2), (58, sc_iand), (59, sc_retI), (60, sc_ldI 1), (61, sc_ldI 2), (62, sc_ior), (63, sc_retI), (64, sc_ldI 1), (65, sc_ldI 2), (66, sc_ixor), (67, sc_retI), (68, sc_ldI 1), (69, sc_ldI 2), (70, sc_cst 31), (72, sc_iand), (73, sc_ishl), (74, sc_retI), (75, sc_ldI 1), (76, sc_ldI 2), (77, sc_ic_ge 84), (80, sc_cst 1), (81, sc_goto 85), (84, sc_cst 0), (85, sc_retI), (86, sc_ldI 1), (87, sc_ldI 2), (88, sc_imul), (89, sc_retI), (90, sc_ldI 2), (91, sc_if_ne 98), (94, sc_cst 0), (95, sc_goto 101), (98, sc_ldI 1), (99, sc_ldI 2), (100, sc_idiv), (101, sc_retI)]
noncomputable def st_X3_work : List (Nat × sc_EN) := [(0, sc_ldA 0), (1, sc_get 3 11), (4, sc_cst 2), (5, sc_ald), (6, sc_stI 1), (7, sc_ldA 0), (8, sc_ldA 0), (9, sc_get 3 13), (12, sc_cst 2), (13, sc_ald), (14, sc_inv 59 3 2), (17, sc_stI 2), (18, sc_ldA 0), (19, sc_ldA 0), (20, sc_get 3 14), (23, sc_cst 2), (24, sc_ald), (25, sc_inv 59 3 2), (28, sc_stI 3), (29, sc_ldA 0), (30, sc_get 3 10), (33, sc_cst 2), (34, sc_ald), (35, sc_stI 4), (37, sc_ldA 0), (38, sc_get 3 15), (41, sc_cst 2), (42, sc_ald), (43, sc_stI 5), (45, sc_ldI 4), (47, sc_cst 1), (48, sc_iadd), (49, sc_stI 6), (51, sc_cst 0), (52, sc_stI 7), (54, sc_ldI 1), (55, sc_cst 8), (57, sc_ic_gt 97), (60, sc_ldI 1), (61, sc_ldI 2), (62, sc_ldI 3), (63, sc_ins 60 3), (66, sc_stI 7), (68, sc_ldA 0), (69, sc_get 3 19), (72, sc_cst 2), (73, sc_ldI 1), (74, sc_cst 8), (76, sc_ic_ne 87), (79, sc_ldI 3), (80, sc_if_ne 87), (83, sc_cst 4), (84, sc_goto 93), (87, sc_ldA 0), (88, sc_get 3 19), (91, sc_cst 2), (92, sc_ald), (93, sc_ast), (94, sc_goto 372), (97, sc_ldI 1), (98, sc_cst 9), (100, sc_ic_eq 109), (103, sc_ldI 1), (104, sc_cst 10), (106, sc_ic_ne 129), (109, sc_ldI 1), (110, sc_cst 10), (112, sc_ic_ne 120), (115, sc_ldI 5), (117, sc_goto 124), (120, sc_ldI 2), (121, sc_ldI 5), (123, sc_iadd), (124, sc_stI 7), (126, sc_goto 372), (129, sc_ldI 1), (130, sc_cst 11), (132, sc_ic_eq 141), (135, sc_ldI 1), (136, sc_cst 12), (138, sc_ic_ne 186), (141, sc_ldA 0), (142, sc_get 3 18), (145, sc_cst 2), (146, sc_ldI 2), (147, sc_ldI 5), (149, sc_iadd), (150, sc_ast), (151, sc_ldI 3), (152, sc_stI 7), (154, sc_ldA 0), (155, sc_get 3 19), (158, sc_cst 2), (159, sc_ldI 2), (160, sc_ldI 5), (162, sc_iadd), (163, sc_cst 0), (164, sc_cst 31), (166, sc_ins 44 3), (169, sc_if_eq 181), (172, sc_ldA 0), (173, sc_get 3 19), (176, sc_cst 2), (177, sc_ald), (178, sc_goto 182), (181, sc_cst 3), (182, sc_ast), (183, sc_goto 372), (186, sc_ldI 1), (187, sc_cst 13), (189, sc_ic_eq 198), (192, sc_ldI 1), (193, sc_cst 14), (195, sc_ic_ne 318), (198, sc_ldI 2), (199, sc_ldI 3), (200, sc_ic_ne 207), (203, sc_cst 1), (204, sc_goto 208), (207, sc_cst 0), (208, sc_ldI 1), (209, sc_cst 13), (211, sc_ic_ne 218), (214, sc_cst 1), (215, sc_goto 219), (218, sc_cst 0), (219, sc_ic_ne 226), (222, sc_cst 1), (223, sc_goto 227), (226, sc_cst 0), (227, sc_stI 8), (229, sc_ldI 4), (231, sc_cst 7), (233, sc_iand), (234, sc_stI 9), (236, sc_ldA 0), (237, sc_get 3 8), (240, sc_ldI 9), (242, sc_ldI 8), (244, sc_if_eq 274), (247, sc_ldA 0), (248, sc_get 3 8), (251, sc_ldI 9), (253, sc_ald), (254, sc_cst 3), (255, sc_ic_ge 270), (258, sc_ldA 0), (259, sc_get 3 8), (262, sc_ldI 9), (264, sc_ald), (265, sc_cst 1), (266, sc_iadd), (267, sc_goto 297), (270, sc_cst 3), (271, sc_goto 297), (274, sc_ldA 0), (275, sc_get 3 8), (278, sc_ldI 9), (280, sc_ald), (281, sc_if_le 296), (284, sc_ldA 0), (285, sc_get 3 8), (288, sc_ldI 9), (290, sc_ald), (291, sc_cst 1), (292, sc_isub), (293, sc_goto 297), (296, sc_cst 0), (297, sc_ast), (298, sc_ldI 8), (300, sc_if_eq 311), (303, sc_ldI 4), (305, sc_ldI 5), (307, sc_iadd), (308, sc_goto 313), (311, sc_ldI 6), (313, sc_stI 6), (315, sc_goto 372), (318, sc_ldI 1), (319, sc_cst 15), (321, sc_ic_eq 330), (324, sc_ldI 1), (325, sc_cst 16), (327, sc_ic_ne 359), (330, sc_ldI 4), (332, sc_cst 1), (333, sc_iadd), (334, sc_stI 7), (336, sc_ldI 1), (337, sc_cst 15), (339, sc_ic_ne 350), (342, sc_ldI 4), (344, sc_ldI 5), (346, sc_iadd), (347, sc_goto 354), (350, sc_ldI 2), (351, sc_ldI 5), (353, sc_iadd), (354, sc_stI 6), (356, sc_goto 372), (359, sc_ldI 1), (360, sc_cst 17), (362, sc_ic_ne 372), (365, sc_ldA 0), (366, sc_get 3 19), (369, sc_cst 2), (370, sc_cst 2), (371, sc_ast), (372, sc_ldA 0), (373, sc_get 3 17), (376, sc_cst 2), (377, sc_ldI 7), (379, sc_ast), (380, sc_ldI 6), (382, sc_retI)]
noncomputable def st_X3_reach : List (Nat × sc_EN) := [(0, sc_ldA 0), (1, sc_get 3 9), (4, sc_cst 2), (5, sc_zld), (6, sc_if_ne 10), (9, sc_retV), (10, sc_ldA 0), (11, sc_get 3 11), (14, sc_cst 2), (15, sc_ald), (16, sc_stI 2), (17, sc_ldI 1), (18, sc_if_eq 59), (21, sc_ldI 2), (22, sc_ins 54 1), (25, sc_if_eq 38), (28, sc_ldA 0), (29, sc_get 3 13), (32, sc_cst 2), (33, sc_ald), (34, sc_ldI 1), (35, sc_ic_eq 55), (38, sc_ldI 2), (39, sc_ins 55 1), (42, sc_if_eq 59), (45, sc_ldA 0), (46, sc_get 3 14), (49, sc_cst 2), (50, sc_ald), (51, sc_ldI 1), (52, sc_ic_ne 59), (55, sc_cst 1), (56, sc_goto 60), (59, sc_cst 0), (60, sc_stI 3), (61, sc_ldI 3), (62, sc_if_eq 76), (65, sc_ldA 0), (66, sc_dup), (67, sc_get 3 28), (70, sc_cst 1), (71, sc_iadd), (72, sc_putI 3 28), (75, sc_retV), (76, sc_ldA 0), (77, sc_dup), (78, sc_get 3 20), (81, sc_cst 1), (82, sc_isub), (83, sc_putI 3 20), (86, sc_ldA 0), (87, sc_get 3 20), (90, sc_if_le 104), (93, sc_ldA 0), (94, sc_dup), (95, sc_get 3 28), (98, sc_cst 1), (99, sc_iadd), (100, sc_putI 3 28), (103, sc_retV), (104, sc_ldA 0), (105, sc_inv 61 3 1), (108, sc_stI 4), (110, sc_ldA 0), (111, sc_get 3 19), (114, sc_cst 2), (115, sc_ald), (116, sc_if_ne 160), (119, sc_ldI 4), (121, sc_ldA 0), (122, sc_get 3 16), (125, sc_cst 2), (126, sc_ald), (127, sc_ic_eq 160), (130, sc_ldA 0), (131, sc_dup), (132, sc_get 3 29), (135, sc_cst 1), (136, sc_iadd), (137, sc_putI 3 29), (140, sc_ldA 0), (141, sc_get 3 9), (144, sc_cst 0), (145, sc_cst 0), (146, sc_zst), (147, sc_ldA 0), (148, sc_get 3 9), (151, sc_cst 1), (152, sc_cst 0), (153, sc_zst), (154, sc_ldA 0), (155, sc_ldI 4), (157, sc_putI 3 21), (160, sc_ldA 0), (161, sc_cst 2), (162, sc_inv 56 3 2), (165, sc_retV)]
noncomputable def st_X3_fetch : List (Nat × sc_EN) := [(0, sc_ldA 0), (1, sc_get 3 21), (4, sc_cst 0), (5, sc_cst 63), (7, sc_ins 44 3), (10, sc_stI 1), (11, sc_ldA 0), (12, sc_get 3 9), (15, sc_cst 0), (16, sc_cst 1), (17, sc_zst), (18, sc_ldA 0), (19, sc_get 3 10), (22, sc_cst 0), (23, sc_ldA 0), (24, sc_get 3 21), (27, sc_ast), (28, sc_ldA 0), (29, sc_get 3 11), (32, sc_cst 0), (33, sc_ldI 1), (34, sc_if_eq 49), (37, sc_ldA 0), (38, sc_get 3 1), (41, sc_ldA 0), (42, sc_get 3 21), (45, sc_ald), (46, sc_goto 51), (49, sc_cst 19), (51, sc_ast), (52, sc_ldA 0), (53, sc_get 3 12), (56, sc_cst 0), (57, sc_ldI 1), (58, sc_if_eq 73), (61, sc_ldA 0), (62, sc_get 3 2), (65, sc_ldA 0), (66, sc_get 3 21), (69, sc_ald), (70, sc_goto 74), (73, sc_cst 0), (74, sc_ast), (75, sc_ldA 0), (76, sc_get 3 13), (79, sc_cst 0), (80, sc_ldI 1), (81, sc_if_eq 96), (84, sc_ldA 0), (85, sc_get 3 3), (88, sc_ldA 0), (89, sc_get 3 21), (92, sc_ald), (93, sc_goto 97), (96, sc_cst 0), (97, sc_ast), (98, sc_ldA 0), (99, sc_get 3 14), (102, sc_cst 0), (103, sc_ldI 1), (104, sc_if_eq 119), (107, sc_ldA 0), (108, sc_get 3 4), (111, sc_ldA 0), (112, sc_get 3 21), (115, sc_ald), (116, sc_goto 120), (119, sc_cst 0), (120, sc_ast), (121, sc_ldA 0), (122, sc_get 3 15), (125, sc_cst 0), (126, sc_ldI 1), (127, sc_if_eq 142), (130, sc_ldA 0), (131, sc_get 3 5), (134, sc_ldA 0), (135, sc_get 3 21), (138, sc_ald), (139, sc_goto 143), (142, sc_cst 0), (143, sc_ast), (144, sc_ldA 0), (145, sc_get 3 19), (148, sc_cst 0), (149, sc_ldI 1), (150, sc_if_eq 157), (153, sc_cst 0), (154, sc_goto 158), (157, sc_cst 1), (158, sc_ast), (159, sc_ldA 0), (160, sc_get 3 11), (163, sc_cst 0), (164, sc_ald), (165, sc_stI 2), (166, sc_ldI 2), (167, sc_cst 15), (169, sc_ic_eq 200), (172, sc_ldI 2), (173, sc_cst 13), (175, sc_ic_eq 184), (178, sc_ldI 2), (179, sc_cst 14), (181, sc_ic_ne 204), (184, sc_ldA 0), (185, sc_get 3 8), (188, sc_ldA 0), (189, sc_get 3 21), (192, sc_cst 7), (194, sc_iand), (195, sc_ald), (196, sc_cst 1), (197, sc_ic_le 204), (200, sc_cst 1), (201, sc_goto 205), (204, sc_cst 0), (205, sc_stI 3), (206, sc_ldA 0), (207, sc_ldI 3), (208, sc_if_eq 225), (211, sc_ldA 0), (212, sc_get 3 21), (215, sc_ldA 0), (216, sc_get 3 15), (219, sc_cst 0), (220, sc_ald), (221, sc_iadd), (222, sc_goto 231), (225, sc_ldA 0), (226, sc_get 3 21), (229, sc_cst 1), (230, sc_iadd), (231, sc_putI 3 21), (234, sc_ldA 0), (235, sc_get 3 16), (238, sc_cst 0), (239, sc_ldA 0), (240, sc_get 3 21), (243, sc_ast), (244, sc_retV)]
noncomputable def st_X3_cycle : List (Nat × sc_EN) := [(0, sc_ldA 0), (1, sc_dup), (2, sc_get 3 26), (5, sc_cst 1), (6, sc_iadd), (7, sc_putI 3 26), (10, sc_ldA 0), (11, sc_get 3 9), (14, sc_cst 3), (15, sc_zld), (16, sc_if_eq 48), (19, sc_ldA 0), (20, sc_get 3 11), (23, sc_cst 3), (24, sc_ald), (25, sc_cst 11), (27, sc_ic_ne 48), (30, sc_ldA 0), (31, sc_get 3 19), (34, sc_cst 3), (35, sc_ald), (36, sc_if_ne 48), (39, sc_ldA 0), (40, sc_get 3 12), (43, sc_cst 3), (44, sc_ald), (45, sc_goto 49), (48, sc_cst 0), (49, sc_stI 1), (50, sc_ldA 0), (51, sc_inv 57 3 1), (54, sc_if_eq 58), (57, sc_retV), (58, sc_ldA 0), (59, sc_inv 58 3 1), (62, sc_ldA 0), (63, sc_ldI 1), (64, sc_inv 62 3 2), (67, sc_ldA 0), (68, sc_get 3 9), (71, sc_cst 2), (72, sc_zld), (73, sc_if_ne 126), (76, sc_ldA 0), (77, sc_get 3 9), (80, sc_cst 1), (81, sc_zld), (82, sc_if_eq 126), (85, sc_ldA 0), (86, sc_cst 1), (87, sc_inv 56 3 2), (90, sc_ldA 0), (91, sc_ldA 0), (92, sc_get 3 11), (95, sc_cst 2), (96, sc_ald), (97, sc_cst 7), (99, sc_ic_ne 106), (102, sc_cst 3), (103, sc_goto 123), (106, sc_ldA 0), (107, sc_get 3 11), (110, sc_cst 2), (111, sc_ald), (112, sc_cst 8), (114, sc_ic_ne 122), (117, sc_cst 6), (119, sc_goto 123), (122, sc_cst 1), (123, sc_putI 3 20), (126, sc_ldA 0), (127, sc_get 3 9), (130, sc_cst 1), (131, sc_zld), (132, sc_if_ne 149), (135, sc_ldA 0), (136, sc_get 3 9), (139, sc_cst 0), (140, sc_zld), (141, sc_if_eq 149), (144, sc_ldA 0), (145, sc_cst 0), (146, sc_inv 56 3 2), (149, sc_ldA 0), (150, sc_get 3 9), (153, sc_cst 0), (154, sc_zld), (155, sc_if_ne 162), (158, sc_ldA 0), (159, sc_inv 63 3 1), (162, sc_retV)]
noncomputable def st_X3_cycles : List (Nat × sc_EN) := [(0, sc_ldA 0), (1, sc_ldI 1), (2, sc_cst 1), (3, sc_cst 300), (6, sc_inv 43 3 4), (9, sc_if_eq 14), (12, sc_cst 0), (13, sc_retI), (14, sc_ldA 0), (15, sc_get 3 27), (18, sc_stI 2), (19, sc_cst 0), (20, sc_stI 3), (21, sc_ldI 3), (22, sc_ldI 1), (23, sc_ic_ge 43), (26, sc_ldA 0), (27, sc_get 3 25), (30, sc_if_ne 43), (33, sc_ldA 0), (34, sc_inv 64 3 1), (37, sc_inc 3 1), (40, sc_goto 21), (43, sc_ldA 0), (44, sc_get 3 27), (47, sc_ldI 2), (48, sc_isub), (49, sc_retI)]
noncomputable def st_X3_stage : List (Nat × sc_EN) := [(0, sc_ldA 0), (1, sc_ldI 1), (2, sc_cst 0), (3, sc_cst 4), (4, sc_inv 43 3 4), (7, sc_if_eq 12), (10, sc_cst 0), (11, sc_retI), (12, sc_ldA 0), (13, sc_get 3 9), (16, sc_ldI 1), (17, sc_zld), (18, sc_if_eq 30), (21, sc_ldA 0), (22, sc_get 3 10), (25, sc_ldI 1), (26, sc_ald), (27, sc_goto 31), (30, sc_cst (-1)), (31, sc_retI)]
noncomputable def st_X3_counter : List (Nat × sc_EN) := [(0, sc_ldA 0), (1, sc_ldI 1), (2, sc_cst 0), (3, sc_cst 7), (5, sc_inv 43 3 4), (8, sc_if_eq 15), (11, sc_cst 0), (12, sc_goto 21), (15, sc_ldA 0), (16, sc_get 3 8), (19, sc_ldI 1), (20, sc_ald), (21, sc_retI)]
noncomputable def st_X3_retired : List (Nat × sc_EN) := [(0, sc_ldA 0), (1, sc_ldI 1), (2, sc_cst 0), (3, sc_ldA 0), (4, sc_get 3 31), (7, sc_cst 1), (8, sc_isub), (9, sc_inv 43 3 4), (12, sc_if_eq 19), (15, sc_cst 0), (16, sc_goto 25), (19, sc_ldA 0), (20, sc_get 3 32), (23, sc_ldI 1), (24, sc_ald), (25, sc_retI)]
noncomputable def st_X3_count : List (Nat × sc_EN) := [(0, sc_ldA 0), (1, sc_ldI 1), (2, sc_cst 0), (3, sc_cst 8), (5, sc_inv 43 3 4), (8, sc_if_eq 13), (11, sc_cst 0), (12, sc_retI), (13, sc_ldI 1), (14, sc_sw [(0, 60), (1, 65), (2, 70), (3, 75), (4, 80), (5, 85), (6, 90), (7, 95)] 100), (60, sc_ldA 0), (61, sc_get 3 26), (64, sc_retI), (65, sc_ldA 0), (66, sc_get 3 27), (69, sc_retI), (70, sc_ldA 0), (71, sc_get 3 28), (74, sc_retI), (75, sc_ldA 0), (76, sc_get 3 29), (79, sc_retI), (80, sc_ldA 0), (81, sc_get 3 30), (84, sc_retI), (85, sc_ldA 0), (86, sc_get 3 21), (89, sc_retI), (90, sc_ldA 0), (91, sc_get 3 23), (94, sc_retI), (95, sc_ldA 0), (96, sc_get 3 24), (99, sc_retI), (100, sc_ldA 0), (101, sc_get 3 25), (104, sc_if_eq 111), (107, sc_cst 1), (108, sc_goto 112), (111, sc_cst 0), (112, sc_retI)]
noncomputable def st_J9_max_7cf53 : List (Nat × sc_EN) := [(0, sc_ldI 0), (1, sc_ldI 1), (2, sc_ic_lt 9), (5, sc_ldI 0), (6, sc_goto 10), (9, sc_ldI 1), (10, sc_retI)]
noncomputable def st_J9_min_7cf53 : List (Nat × sc_EN) := [(0, sc_ldI 0), (1, sc_ldI 1), (2, sc_ic_gt 9), (5, sc_ldI 0), (6, sc_goto 10), (9, sc_ldI 1), (10, sc_retI)]
set_option maxRecDepth 100000 in
theorem kF_0_15 : Cond.fieldLink "StageChip$Flight" 15 "StageChip$Flight" "present" "Z" ∈ sc_G := sc_inG 56 (by decide +kernel) (by decide +kernel)
set_option maxRecDepth 100000 in
theorem kF_0_19 : Cond.fieldLink "StageChip$Flight" 19 "StageChip$Flight" "fault" "I" ∈ sc_G := sc_inG 63 (by decide +kernel) (by decide +kernel)
set_option maxRecDepth 100000 in
theorem kF_0_9 : Cond.fieldLink "StageChip$Flight" 9 "StageChip$Flight" "instruction" "LStageChip$Instruction;" ∈ sc_G := sc_inG 58 (by decide +kernel) (by decide +kernel)
set_option maxRecDepth 100000 in
theorem kN_0_23 : ("StageChip$Flight", 23, "StageChip$Instruction", "operation", "I", "StageChip") ∈ sc_NF := List.mem_of_getElem? (i := 0) rfl
set_option maxRecDepth 100000 in
theorem kF_1_9 : Cond.fieldLink "StageChip$Instruction" 9 "StageChip$Instruction" "operation" "I" ∈ sc_G := sc_inG 25 (by decide +kernel) (by decide +kernel)
set_option maxRecDepth 100000 in
theorem mo_1 : sc_MO 1 0 := ⟨by decide, ⟨by decide, by decide, by decide +kernel⟩, by decide, sc_inG 320 rfl rfl, sc_inG 2 (by decide +kernel) (by decide +kernel)⟩
set_option maxRecDepth 100000 in
theorem kI_1 : Cond.instanceMethod ⟨"StageChip$Instruction", "writesD", "()Z"⟩ ∈ sc_G := sc_inG 319 (by decide +kernel) (by decide +kernel)
set_option maxRecDepth 100000 in
theorem kL_1 : Cond.selects "StageChip$Instruction" ⟨"StageChip$Instruction", "writesD", "()Z"⟩ ⟨"StageChip$Instruction", "writesD", "()Z"⟩ ∈ sc_G := sc_inS 8 (by decide +kernel) (by decide +kernel)
set_option maxRecDepth 100000 in
theorem kG_0_28 : ("StageChip$Flight", 28, ⟨"StageChip$Instruction", "writesD", "()Z"⟩, "StageChip") ∈ sc_NM := List.mem_of_getElem? (i := 4) rfl
set_option maxRecDepth 100000 in
theorem kN_0_32 : ("StageChip$Flight", 32, "StageChip$Instruction", "d", "I", "StageChip") ∈ sc_NF := List.mem_of_getElem? (i := 2) rfl
set_option maxRecDepth 100000 in
theorem mo_3 : sc_MO 3 0 := ⟨by decide, ⟨by decide, by decide, by decide +kernel⟩, by decide, sc_inG 351 rfl rfl, sc_inG 2 (by decide +kernel) (by decide +kernel)⟩
set_option maxRecDepth 100000 in
theorem kI_3 : Cond.instanceMethod ⟨"StageChip$Instruction", "isBranch", "()Z"⟩ ∈ sc_G := sc_inG 350 (by decide +kernel) (by decide +kernel)
set_option maxRecDepth 100000 in
theorem kL_3 : Cond.selects "StageChip$Instruction" ⟨"StageChip$Instruction", "isBranch", "()Z"⟩ ⟨"StageChip$Instruction", "isBranch", "()Z"⟩ ∈ sc_G := sc_inS 15 (by decide +kernel) (by decide +kernel)
set_option maxRecDepth 100000 in
theorem kM_1_31 : Cond.methodLink "StageChip$Instruction" 31 ⟨"StageChip$Instruction", "isBranch", "()Z"⟩ ∈ sc_G := sc_inG 348 (by decide +kernel) (by decide +kernel)
set_option maxRecDepth 100000 in
theorem mo_4 : sc_MO 4 0 := ⟨by decide, ⟨by decide, by decide, by decide +kernel⟩, by decide, sc_inG 347 rfl rfl, sc_inG 2 (by decide +kernel) (by decide +kernel)⟩
set_option maxRecDepth 100000 in
theorem kI_4 : Cond.instanceMethod ⟨"StageChip$Instruction", "usesT", "()Z"⟩ ∈ sc_G := sc_inG 346 (by decide +kernel) (by decide +kernel)
set_option maxRecDepth 100000 in
theorem kL_4 : Cond.selects "StageChip$Instruction" ⟨"StageChip$Instruction", "usesT", "()Z"⟩ ⟨"StageChip$Instruction", "usesT", "()Z"⟩ ∈ sc_G := sc_inS 14 (by decide +kernel) (by decide +kernel)
set_option maxRecDepth 100000 in
theorem kM_1_27 : Cond.methodLink "StageChip$Instruction" 27 ⟨"StageChip$Instruction", "usesT", "()Z"⟩ ∈ sc_G := sc_inG 344 (by decide +kernel) (by decide +kernel)
set_option maxRecDepth 100000 in
theorem mo_8 : sc_MO 8 2 := ⟨by decide, ⟨by decide, by decide, by decide +kernel⟩, by decide, sc_inG 152 rfl rfl, sc_inG 1 (by decide +kernel) (by decide +kernel)⟩
set_option maxRecDepth 100000 in
theorem kM_2_44 : Cond.methodLink "StageChip" 44 ⟨"StageChip", "checkIndex", "(II)V"⟩ ∈ sc_G := sc_inG 150 (by decide +kernel) (by decide +kernel)
set_option maxRecDepth 100000 in
theorem kS_8 : Cond.static ⟨"StageChip", "checkIndex", "(II)V"⟩ ∈ sc_G := sc_inG 151 (by decide +kernel) (by decide +kernel)
set_option maxRecDepth 100000 in
theorem kF_2_22 : Cond.fieldLink "StageChip" 22 "StageChip" "data" "[I" ∈ sc_G := sc_inG 87 (by decide +kernel) (by decide +kernel)
set_option maxRecDepth 100000 in
theorem kF_2_26 : Cond.fieldLink "StageChip" 26 "StageChip" "registers" "[I" ∈ sc_G := sc_inG 88 (by decide +kernel) (by decide +kernel)
set_option maxRecDepth 100000 in
theorem kF_2_34 : Cond.fieldLink "StageChip" 34 "StageChip" "stages" "[LStageChip$Flight;" ∈ sc_G := sc_inG 90 (by decide +kernel) (by decide +kernel)
set_option maxRecDepth 100000 in
theorem kN_2_80 : ("StageChip", 80, "StageChip$Flight", "present", "Z", "StageChip") ∈ sc_NF := List.mem_of_getElem? (i := 7) rfl
set_option maxRecDepth 100000 in
theorem mo_14 : sc_MO 14 1 := ⟨by decide, ⟨by decide, by decide, by decide +kernel⟩, by decide, sc_inG 278 rfl rfl, sc_inG 1 (by decide +kernel) (by decide +kernel)⟩
set_option maxRecDepth 100000 in
theorem kI_14 : Cond.instanceMethod ⟨"StageChip", "emptyStagesBelow", "(I)V"⟩ ∈ sc_G := sc_inG 277 (by decide +kernel) (by decide +kernel)
set_option maxRecDepth 100000 in
theorem kL_14 : Cond.selects "StageChip" ⟨"StageChip", "emptyStagesBelow", "(I)V"⟩ ⟨"StageChip", "emptyStagesBelow", "(I)V"⟩ ∈ sc_G := sc_inS 1 (by decide +kernel) (by decide +kernel)
set_option maxRecDepth 100000 in
theorem kM_2_59 : Cond.methodLink "StageChip" 59 ⟨"StageChip", "emptyStagesBelow", "(I)V"⟩ ∈ sc_G := sc_inG 275 (by decide +kernel) (by decide +kernel)
set_option maxRecDepth 100000 in
theorem kF_2_63 : Cond.fieldLink "StageChip" 63 "StageChip" "where" "I" ∈ sc_G := sc_inG 92 (by decide +kernel) (by decide +kernel)
set_option maxRecDepth 100000 in
theorem kF_2_67 : Cond.fieldLink "StageChip" 67 "StageChip" "halted" "Z" ∈ sc_G := sc_inG 96 (by decide +kernel) (by decide +kernel)
set_option maxRecDepth 100000 in
theorem kF_2_71 : Cond.fieldLink "StageChip" 71 "StageChip" "handlerPlace" "I" ∈ sc_G := sc_inG 93 (by decide +kernel) (by decide +kernel)
set_option maxRecDepth 100000 in
theorem kF_2_101 : Cond.fieldLink "StageChip" 101 "StageChip" "faultCount" "I" ∈ sc_G := sc_inG 101 (by decide +kernel) (by decide +kernel)
set_option maxRecDepth 100000 in
theorem kN_2_136 : ("StageChip", 136, "StageChip$Flight", "fault", "I", "StageChip") ∈ sc_NF := List.mem_of_getElem? (i := 12) rfl
set_option maxRecDepth 100000 in
theorem kF_2_104 : Cond.fieldLink "StageChip" 104 "StageChip" "cause" "I" ∈ sc_G := sc_inG 94 (by decide +kernel) (by decide +kernel)
set_option maxRecDepth 100000 in
theorem kN_2_83 : ("StageChip", 83, "StageChip$Flight", "place", "I", "StageChip") ∈ sc_NF := List.mem_of_getElem? (i := 9) rfl
set_option maxRecDepth 100000 in
theorem kF_2_107 : Cond.fieldLink "StageChip" 107 "StageChip" "returnPlace" "I" ∈ sc_G := sc_inG 95 (by decide +kernel) (by decide +kernel)
set_option maxRecDepth 100000 in
theorem kN_2_149 : ("StageChip", 149, "StageChip$Flight", "instruction", "LStageChip$Instruction;", "StageChip") ∈ sc_NF := List.mem_of_getElem? (i := 8) rfl
set_option maxRecDepth 100000 in
theorem kN_2_152 : ("StageChip", 152, "StageChip$Instruction", "d", "I", "StageChip") ∈ sc_NF := List.mem_of_getElem? (i := 3) rfl
set_option maxRecDepth 100000 in
theorem mo_2 : sc_MO 2 1 := ⟨by decide, ⟨by decide, by decide, by decide +kernel⟩, by decide, sc_inG 316 rfl rfl, sc_inG 3 (by decide +kernel) (by decide +kernel)⟩
set_option maxRecDepth 100000 in
theorem kI_2 : Cond.instanceMethod ⟨"StageChip$Flight", "writes", "(I)Z"⟩ ∈ sc_G := sc_inG 315 (by decide +kernel) (by decide +kernel)
set_option maxRecDepth 100000 in
theorem kL_2 : Cond.selects "StageChip$Flight" ⟨"StageChip$Flight", "writes", "(I)Z"⟩ ⟨"StageChip$Flight", "writes", "(I)Z"⟩ ∈ sc_G := sc_inS 7 (by decide +kernel) (by decide +kernel)
set_option maxRecDepth 100000 in
theorem kG_2_155 : ("StageChip", 155, ⟨"StageChip$Flight", "writes", "(I)Z"⟩, "StageChip") ∈ sc_NM := List.mem_of_getElem? (i := 3) rfl
set_option maxRecDepth 100000 in
theorem kN_2_158 : ("StageChip", 158, "StageChip$Flight", "value", "I", "StageChip") ∈ sc_NF := List.mem_of_getElem? (i := 14) rfl
set_option maxRecDepth 100000 in
theorem kF_2_41 : Cond.fieldLink "StageChip" 41 "StageChip" "lastRetired" "[I" ∈ sc_G := sc_inG 91 (by decide +kernel) (by decide +kernel)
set_option maxRecDepth 100000 in
theorem kF_2_74 : Cond.fieldLink "StageChip" 74 "StageChip" "retiredCount" "I" ∈ sc_G := sc_inG 98 (by decide +kernel) (by decide +kernel)
set_option maxRecDepth 100000 in
theorem mo_28 : sc_MO 28 2 := ⟨by decide, ⟨by decide, by decide, by decide +kernel⟩, by decide, sc_inG 323 rfl rfl, sc_inG 10 (by decide +kernel) (by decide +kernel)⟩
set_option maxRecDepth 100000 in
theorem kM_2_161 : Cond.methodLink "StageChip" 161 ⟨"java/lang/Math", "floorMod", "(II)I"⟩ ∈ sc_G := sc_inG 321 (by decide +kernel) (by decide +kernel)
set_option maxRecDepth 100000 in
theorem kS_28 : Cond.static ⟨"java/lang/Math", "floorMod", "(II)I"⟩ ∈ sc_G := sc_inG 322 (by decide +kernel) (by decide +kernel)
set_option maxRecDepth 100000 in
theorem mo_17 : sc_MO 17 1 := ⟨by decide, ⟨by decide, by decide, by decide +kernel⟩, by decide, sc_inG 304 rfl rfl, sc_inG 1 (by decide +kernel) (by decide +kernel)⟩
set_option maxRecDepth 100000 in
theorem kI_17 : Cond.instanceMethod ⟨"StageChip", "takeFault", "(LStageChip$Flight;)V"⟩ ∈ sc_G := sc_inG 303 (by decide +kernel) (by decide +kernel)
set_option maxRecDepth 100000 in
theorem kL_17 : Cond.selects "StageChip" ⟨"StageChip", "takeFault", "(LStageChip$Flight;)V"⟩ ⟨"StageChip", "takeFault", "(LStageChip$Flight;)V"⟩ ∈ sc_G := sc_inS 4 (by decide +kernel) (by decide +kernel)
set_option maxRecDepth 100000 in
theorem kM_2_139 : Cond.methodLink "StageChip" 139 ⟨"StageChip", "takeFault", "(LStageChip$Flight;)V"⟩ ∈ sc_G := sc_inG 301 (by decide +kernel) (by decide +kernel)
set_option maxRecDepth 100000 in
theorem mo_0 : sc_MO 0 1 := ⟨by decide, ⟨by decide, by decide, by decide +kernel⟩, by decide, sc_inG 308 rfl rfl, sc_inG 3 (by decide +kernel) (by decide +kernel)⟩
set_option maxRecDepth 100000 in
theorem kI_0 : Cond.instanceMethod ⟨"StageChip$Flight", "does", "(I)Z"⟩ ∈ sc_G := sc_inG 307 (by decide +kernel) (by decide +kernel)
set_option maxRecDepth 100000 in
theorem kL_0 : Cond.selects "StageChip$Flight" ⟨"StageChip$Flight", "does", "(I)Z"⟩ ⟨"StageChip$Flight", "does", "(I)Z"⟩ ∈ sc_G := sc_inS 5 (by decide +kernel) (by decide +kernel)
set_option maxRecDepth 100000 in
theorem kG_2_142 : ("StageChip", 142, ⟨"StageChip$Flight", "does", "(I)Z"⟩, "StageChip") ∈ sc_NM := List.mem_of_getElem? (i := 2) rfl
set_option maxRecDepth 100000 in
theorem mo_18 : sc_MO 18 1 := ⟨by decide, ⟨by decide, by decide, by decide +kernel⟩, by decide, sc_inG 312 rfl rfl, sc_inG 1 (by decide +kernel) (by decide +kernel)⟩
set_option maxRecDepth 100000 in
theorem kI_18 : Cond.instanceMethod ⟨"StageChip", "retire", "(LStageChip$Flight;)V"⟩ ∈ sc_G := sc_inG 311 (by decide +kernel) (by decide +kernel)
set_option maxRecDepth 100000 in
theorem kL_18 : Cond.selects "StageChip" ⟨"StageChip", "retire", "(LStageChip$Flight;)V"⟩ ⟨"StageChip", "retire", "(LStageChip$Flight;)V"⟩ ∈ sc_G := sc_inS 6 (by decide +kernel) (by decide +kernel)
set_option maxRecDepth 100000 in
theorem kM_2_146 : Cond.methodLink "StageChip" 146 ⟨"StageChip", "retire", "(LStageChip$Flight;)V"⟩ ∈ sc_G := sc_inG 309 (by decide +kernel) (by decide +kernel)
set_option maxRecDepth 100000 in
theorem kN_2_164 : ("StageChip", 164, "StageChip$Flight", "address", "I", "StageChip") ∈ sc_NF := List.mem_of_getElem? (i := 13) rfl
set_option maxRecDepth 100000 in
theorem mo_20 : sc_MO 20 1 := ⟨by decide, ⟨by decide, by decide, by decide +kernel⟩, by decide, sc_inG 331 rfl rfl, sc_inG 1 (by decide +kernel) (by decide +kernel)⟩
set_option maxRecDepth 100000 in
theorem kI_20 : Cond.instanceMethod ⟨"StageChip", "moveOnIfFree", "(I)V"⟩ ∈ sc_G := sc_inG 330 (by decide +kernel) (by decide +kernel)
set_option maxRecDepth 100000 in
theorem kL_20 : Cond.selects "StageChip" ⟨"StageChip", "moveOnIfFree", "(I)V"⟩ ⟨"StageChip", "moveOnIfFree", "(I)V"⟩ ∈ sc_G := sc_inS 10 (by decide +kernel) (by decide +kernel)
set_option maxRecDepth 100000 in
theorem kM_2_130 : Cond.methodLink "StageChip" 130 ⟨"StageChip", "moveOnIfFree", "(I)V"⟩ ∈ sc_G := sc_inG 328 (by decide +kernel) (by decide +kernel)
set_option maxRecDepth 100000 in
theorem mo_5 : sc_MO 5 0 := ⟨by decide, ⟨by decide, by decide, by decide +kernel⟩, by decide, sc_inG 343 rfl rfl, sc_inG 2 (by decide +kernel) (by decide +kernel)⟩
set_option maxRecDepth 100000 in
theorem kI_5 : Cond.instanceMethod ⟨"StageChip$Instruction", "usesS", "()Z"⟩ ∈ sc_G := sc_inG 342 (by decide +kernel) (by decide +kernel)
set_option maxRecDepth 100000 in
theorem kL_5 : Cond.selects "StageChip$Instruction" ⟨"StageChip$Instruction", "usesS", "()Z"⟩ ⟨"StageChip$Instruction", "usesS", "()Z"⟩ ∈ sc_G := sc_inS 13 (by decide +kernel) (by decide +kernel)
set_option maxRecDepth 100000 in
theorem kG_2_181 : ("StageChip", 181, ⟨"StageChip$Instruction", "usesS", "()Z"⟩, "StageChip") ∈ sc_NM := List.mem_of_getElem? (i := 5) rfl
set_option maxRecDepth 100000 in
theorem kN_2_185 : ("StageChip", 185, "StageChip$Instruction", "s", "I", "StageChip") ∈ sc_NF := List.mem_of_getElem? (i := 4) rfl
set_option maxRecDepth 100000 in
theorem kG_2_188 : ("StageChip", 188, ⟨"StageChip$Instruction", "usesT", "()Z"⟩, "StageChip") ∈ sc_NM := List.mem_of_getElem? (i := 6) rfl
set_option maxRecDepth 100000 in
theorem kN_2_191 : ("StageChip", 191, "StageChip$Instruction", "t", "I", "StageChip") ∈ sc_NF := List.mem_of_getElem? (i := 5) rfl
set_option maxRecDepth 100000 in
theorem kN_2_212 : ("StageChip", 212, "StageChip$Instruction", "operation", "I", "StageChip") ∈ sc_NF := List.mem_of_getElem? (i := 1) rfl
set_option maxRecDepth 100000 in
theorem mo_6 : sc_MO 6 0 := ⟨by decide, ⟨by decide, by decide, by decide +kernel⟩, by decide, sc_inG 371 rfl rfl, sc_inG 2 (by decide +kernel) (by decide +kernel)⟩
set_option maxRecDepth 100000 in
theorem kI_6 : Cond.instanceMethod ⟨"StageChip$Instruction", "touchesData", "()Z"⟩ ∈ sc_G := sc_inG 370 (by decide +kernel) (by decide +kernel)
set_option maxRecDepth 100000 in
theorem kL_6 : Cond.selects "StageChip$Instruction" ⟨"StageChip$Instruction", "touchesData", "()Z"⟩ ⟨"StageChip$Instruction", "touchesData", "()Z"⟩ ∈ sc_G := sc_inS 19 (by decide +kernel) (by decide +kernel)
set_option maxRecDepth 100000 in
theorem kG_2_206 : ("StageChip", 206, ⟨"StageChip$Instruction", "touchesData", "()Z"⟩, "StageChip") ∈ sc_NM := List.mem_of_getElem? (i := 8) rfl
set_option maxRecDepth 100000 in
theorem kN_2_209 : ("StageChip", 209, "StageChip$Instruction", "n", "I", "StageChip") ∈ sc_NF := List.mem_of_getElem? (i := 6) rfl
set_option maxRecDepth 100000 in
theorem mo_24 : sc_MO 24 1 := ⟨by decide, ⟨by decide, by decide, by decide +kernel⟩, by decide, sc_inG 374 rfl rfl, sc_inG 1 (by decide +kernel) (by decide +kernel)⟩
set_option maxRecDepth 100000 in
theorem kM_2_234 : Cond.methodLink "StageChip" 234 ⟨"StageChip", "isWord", "(I)Z"⟩ ∈ sc_G := sc_inG 372 (by decide +kernel) (by decide +kernel)
set_option maxRecDepth 100000 in
theorem kS_24 : Cond.static ⟨"StageChip", "isWord", "(I)Z"⟩ ∈ sc_G := sc_inG 373 (by decide +kernel) (by decide +kernel)
set_option maxRecDepth 100000 in
theorem kF_2_29 : Cond.fieldLink "StageChip" 29 "StageChip" "counters" "[I" ∈ sc_G := sc_inG 89 (by decide +kernel) (by decide +kernel)
set_option maxRecDepth 100000 in
theorem mo_71 : sc_MO 71 2 := ⟨by decide, ⟨by decide, by decide, by decide +kernel⟩, by decide, sc_inG 388 rfl rfl, sc_inG 10 (by decide +kernel) (by decide +kernel)⟩
set_option maxRecDepth 100000 in
theorem kM_2_86 : Cond.methodLink "StageChip" 86 ⟨"java/lang/Math", "min", "(II)I"⟩ ∈ sc_G := sc_inG 386 (by decide +kernel) (by decide +kernel)
set_option maxRecDepth 100000 in
theorem kS_71 : Cond.static ⟨"java/lang/Math", "min", "(II)I"⟩ ∈ sc_G := sc_inG 387 (by decide +kernel) (by decide +kernel)
set_option maxRecDepth 100000 in
theorem mo_70 : sc_MO 70 2 := ⟨by decide, ⟨by decide, by decide, by decide +kernel⟩, by decide, sc_inG 391 rfl rfl, sc_inG 10 (by decide +kernel) (by decide +kernel)⟩
set_option maxRecDepth 100000 in
theorem kM_2_237 : Cond.methodLink "StageChip" 237 ⟨"java/lang/Math", "max", "(II)I"⟩ ∈ sc_G := sc_inG 389 (by decide +kernel) (by decide +kernel)
set_option maxRecDepth 100000 in
theorem kS_70 : Cond.static ⟨"java/lang/Math", "max", "(II)I"⟩ ∈ sc_G := sc_inG 390 (by decide +kernel) (by decide +kernel)
set_option maxRecDepth 100000 in
theorem kN_2_240 : ("StageChip", 240, "StageChip$Flight", "guess", "I", "StageChip") ∈ sc_NF := List.mem_of_getElem? (i := 10) rfl
set_option maxRecDepth 100000 in
theorem kF_2_98 : Cond.fieldLink "StageChip" 98 "StageChip" "wrongGuessCount" "I" ∈ sc_G := sc_inG 100 (by decide +kernel) (by decide +kernel)
set_option maxRecDepth 100000 in
theorem mo_23 : sc_MO 23 1 := ⟨by decide, ⟨by decide, by decide, by decide +kernel⟩, by decide, sc_inG 364 rfl rfl, sc_inG 1 (by decide +kernel) (by decide +kernel)⟩
set_option maxRecDepth 100000 in
theorem kI_23 : Cond.instanceMethod ⟨"StageChip", "handedOn", "(I)I"⟩ ∈ sc_G := sc_inG 363 (by decide +kernel) (by decide +kernel)
set_option maxRecDepth 100000 in
theorem kL_23 : Cond.selects "StageChip" ⟨"StageChip", "handedOn", "(I)I"⟩ ⟨"StageChip", "handedOn", "(I)I"⟩ ∈ sc_G := sc_inS 18 (by decide +kernel) (by decide +kernel)
set_option maxRecDepth 100000 in
theorem kM_2_194 : Cond.methodLink "StageChip" 194 ⟨"StageChip", "handedOn", "(I)I"⟩ ∈ sc_G := sc_inG 361 (by decide +kernel) (by decide +kernel)
set_option maxRecDepth 100000 in
theorem mo_25 : sc_MO 25 3 := ⟨by decide, ⟨by decide, by decide, by decide +kernel⟩, by decide, sc_inG 367 rfl rfl, sc_inG 1 (by decide +kernel) (by decide +kernel)⟩
set_option maxRecDepth 100000 in
theorem kM_2_198 : Cond.methodLink "StageChip" 198 ⟨"StageChip", "faultOf", "(LStageChip$Instruction;II)I"⟩ ∈ sc_G := sc_inG 365 (by decide +kernel) (by decide +kernel)
set_option maxRecDepth 100000 in
theorem kS_25 : Cond.static ⟨"StageChip", "faultOf", "(LStageChip$Instruction;II)I"⟩ ∈ sc_G := sc_inG 366 (by decide +kernel) (by decide +kernel)
set_option maxRecDepth 100000 in
theorem mo_26 : sc_MO 26 3 := ⟨by decide, ⟨by decide, by decide, by decide +kernel⟩, by decide, sc_inG 377 rfl rfl, sc_inG 1 (by decide +kernel) (by decide +kernel)⟩
set_option maxRecDepth 100000 in
theorem kM_2_202 : Cond.methodLink "StageChip" 202 ⟨"StageChip", "valueOf", "(LStageChip$Flight;II)I"⟩ ∈ sc_G := sc_inG 375 (by decide +kernel) (by decide +kernel)
set_option maxRecDepth 100000 in
theorem kS_26 : Cond.static ⟨"StageChip", "valueOf", "(LStageChip$Flight;II)I"⟩ ∈ sc_G := sc_inG 376 (by decide +kernel) (by decide +kernel)
set_option maxRecDepth 100000 in
theorem mo_27 : sc_MO 27 3 := ⟨by decide, ⟨by decide, by decide, by decide +kernel⟩, by decide, sc_inG 380 rfl rfl, sc_inG 1 (by decide +kernel) (by decide +kernel)⟩
set_option maxRecDepth 100000 in
theorem kM_2_215 : Cond.methodLink "StageChip" 215 ⟨"StageChip", "goesElsewhere", "(III)Z"⟩ ∈ sc_G := sc_inG 378 (by decide +kernel) (by decide +kernel)
set_option maxRecDepth 100000 in
theorem kS_27 : Cond.static ⟨"StageChip", "goesElsewhere", "(III)Z"⟩ ∈ sc_G := sc_inG 379 (by decide +kernel) (by decide +kernel)
set_option maxRecDepth 100000 in
theorem kG_2_219 : ("StageChip", 219, ⟨"StageChip$Instruction", "isBranch", "()Z"⟩, "StageChip") ∈ sc_NM := List.mem_of_getElem? (i := 9) rfl
set_option maxRecDepth 100000 in
theorem mo_29 : sc_MO 29 2 := ⟨by decide, ⟨by decide, by decide, by decide +kernel⟩, by decide, sc_inG 385 rfl rfl, sc_inG 1 (by decide +kernel) (by decide +kernel)⟩
set_option maxRecDepth 100000 in
theorem kI_29 : Cond.instanceMethod ⟨"StageChip", "learn", "(IZ)V"⟩ ∈ sc_G := sc_inG 384 (by decide +kernel) (by decide +kernel)
set_option maxRecDepth 100000 in
theorem kL_29 : Cond.selects "StageChip" ⟨"StageChip", "learn", "(IZ)V"⟩ ⟨"StageChip", "learn", "(IZ)V"⟩ ∈ sc_G := sc_inS 20 (by decide +kernel) (by decide +kernel)
set_option maxRecDepth 100000 in
theorem kM_2_222 : Cond.methodLink "StageChip" 222 ⟨"StageChip", "learn", "(IZ)V"⟩ ∈ sc_G := sc_inG 382 (by decide +kernel) (by decide +kernel)
set_option maxRecDepth 100000 in
theorem mo_30 : sc_MO 30 2 := ⟨by decide, ⟨by decide, by decide, by decide +kernel⟩, by decide, sc_inG 394 rfl rfl, sc_inG 1 (by decide +kernel) (by decide +kernel)⟩
set_option maxRecDepth 100000 in
theorem kM_2_226 : Cond.methodLink "StageChip" 226 ⟨"StageChip", "target", "(LStageChip$Flight;I)I"⟩ ∈ sc_G := sc_inG 392 (by decide +kernel) (by decide +kernel)
set_option maxRecDepth 100000 in
theorem kS_30 : Cond.static ⟨"StageChip", "target", "(LStageChip$Flight;I)I"⟩ ∈ sc_G := sc_inG 393 (by decide +kernel) (by decide +kernel)
set_option maxRecDepth 100000 in
theorem mo_31 : sc_MO 31 2 := ⟨by decide, ⟨by decide, by decide, by decide +kernel⟩, by decide, sc_inG 398 rfl rfl, sc_inG 1 (by decide +kernel) (by decide +kernel)⟩
set_option maxRecDepth 100000 in
theorem kI_31 : Cond.instanceMethod ⟨"StageChip", "holdAgainstGuess", "(LStageChip$Flight;I)V"⟩ ∈ sc_G := sc_inG 397 (by decide +kernel) (by decide +kernel)
set_option maxRecDepth 100000 in
theorem kL_31 : Cond.selects "StageChip" ⟨"StageChip", "holdAgainstGuess", "(LStageChip$Flight;I)V"⟩ ⟨"StageChip", "holdAgainstGuess", "(LStageChip$Flight;I)V"⟩ ∈ sc_G := sc_inS 21 (by decide +kernel) (by decide +kernel)
set_option maxRecDepth 100000 in
theorem kM_2_230 : Cond.methodLink "StageChip" 230 ⟨"StageChip", "holdAgainstGuess", "(LStageChip$Flight;I)V"⟩ ∈ sc_G := sc_inG 395 (by decide +kernel) (by decide +kernel)
set_option maxRecDepth 100000 in
theorem mo_22 : sc_MO 22 1 := ⟨by decide, ⟨by decide, by decide, by decide +kernel⟩, by decide, sc_inG 339 rfl rfl, sc_inG 1 (by decide +kernel) (by decide +kernel)⟩
set_option maxRecDepth 100000 in
theorem kI_22 : Cond.instanceMethod ⟨"StageChip", "needsLoadAhead", "(LStageChip$Instruction;)Z"⟩ ∈ sc_G := sc_inG 338 (by decide +kernel) (by decide +kernel)
set_option maxRecDepth 100000 in
theorem kL_22 : Cond.selects "StageChip" ⟨"StageChip", "needsLoadAhead", "(LStageChip$Instruction;)Z"⟩ ⟨"StageChip", "needsLoadAhead", "(LStageChip$Instruction;)Z"⟩ ∈ sc_G := sc_inS 12 (by decide +kernel) (by decide +kernel)
set_option maxRecDepth 100000 in
theorem kM_2_167 : Cond.methodLink "StageChip" 167 ⟨"StageChip", "needsLoadAhead", "(LStageChip$Instruction;)Z"⟩ ∈ sc_G := sc_inG 336 (by decide +kernel) (by decide +kernel)
set_option maxRecDepth 100000 in
theorem kF_2_95 : Cond.fieldLink "StageChip" 95 "StageChip" "waitCount" "I" ∈ sc_G := sc_inG 99 (by decide +kernel) (by decide +kernel)
set_option maxRecDepth 100000 in
theorem kN_2_171 : ("StageChip", 171, "StageChip$Flight", "worked", "I", "StageChip") ∈ sc_NF := List.mem_of_getElem? (i := 11) rfl
set_option maxRecDepth 100000 in
theorem mo_7 : sc_MO 7 0 := ⟨by decide, ⟨by decide, by decide, by decide +kernel⟩, by decide, sc_inG 356 rfl rfl, sc_inG 2 (by decide +kernel) (by decide +kernel)⟩
set_option maxRecDepth 100000 in
theorem kI_7 : Cond.instanceMethod ⟨"StageChip$Instruction", "workCycles", "()I"⟩ ∈ sc_G := sc_inG 355 (by decide +kernel) (by decide +kernel)
set_option maxRecDepth 100000 in
theorem kL_7 : Cond.selects "StageChip$Instruction" ⟨"StageChip$Instruction", "workCycles", "()I"⟩ ⟨"StageChip$Instruction", "workCycles", "()I"⟩ ∈ sc_G := sc_inS 16 (by decide +kernel) (by decide +kernel)
set_option maxRecDepth 100000 in
theorem kG_2_174 : ("StageChip", 174, ⟨"StageChip$Instruction", "workCycles", "()I"⟩, "StageChip") ∈ sc_NM := List.mem_of_getElem? (i := 7) rfl
set_option maxRecDepth 100000 in
theorem mo_32 : sc_MO 32 1 := ⟨by decide, ⟨by decide, by decide, by decide +kernel⟩, by decide, sc_inG 360 rfl rfl, sc_inG 1 (by decide +kernel) (by decide +kernel)⟩
set_option maxRecDepth 100000 in
theorem kI_32 : Cond.instanceMethod ⟨"StageChip", "finishWork", "(LStageChip$Flight;)V"⟩ ∈ sc_G := sc_inG 359 (by decide +kernel) (by decide +kernel)
set_option maxRecDepth 100000 in
theorem kL_32 : Cond.selects "StageChip" ⟨"StageChip", "finishWork", "(LStageChip$Flight;)V"⟩ ⟨"StageChip", "finishWork", "(LStageChip$Flight;)V"⟩ ∈ sc_G := sc_inS 17 (by decide +kernel) (by decide +kernel)
set_option maxRecDepth 100000 in
theorem kM_2_178 : Cond.methodLink "StageChip" 178 ⟨"StageChip", "finishWork", "(LStageChip$Flight;)V"⟩ ∈ sc_G := sc_inG 357 (by decide +kernel) (by decide +kernel)
set_option maxRecDepth 100000 in
theorem kF_2_18 : Cond.fieldLink "StageChip" 18 "StageChip" "program" "[LStageChip$Instruction;" ∈ sc_G := sc_inG 86 (by decide +kernel) (by decide +kernel)
set_option maxRecDepth 100000 in
theorem kF_2_14 : Cond.fieldLink "StageChip" 14 "StageChip" "nop" "LStageChip$Instruction;" ∈ sc_G := sc_inG 85 (by decide +kernel) (by decide +kernel)
set_option maxRecDepth 100000 in
theorem mo_34 : sc_MO 34 2 := ⟨by decide, ⟨by decide, by decide, by decide +kernel⟩, by decide, sc_inG 406 rfl rfl, sc_inG 1 (by decide +kernel) (by decide +kernel)⟩
set_option maxRecDepth 100000 in
theorem kI_34 : Cond.instanceMethod ⟨"StageChip", "guessNext", "(LStageChip$Instruction;I)I"⟩ ∈ sc_G := sc_inG 405 (by decide +kernel) (by decide +kernel)
set_option maxRecDepth 100000 in
theorem kL_34 : Cond.selects "StageChip" ⟨"StageChip", "guessNext", "(LStageChip$Instruction;I)I"⟩ ⟨"StageChip", "guessNext", "(LStageChip$Instruction;I)I"⟩ ∈ sc_G := sc_inS 23 (by decide +kernel) (by decide +kernel)
set_option maxRecDepth 100000 in
theorem kM_2_243 : Cond.methodLink "StageChip" 243 ⟨"StageChip", "guessNext", "(LStageChip$Instruction;I)I"⟩ ∈ sc_G := sc_inG 403 (by decide +kernel) (by decide +kernel)
set_option maxRecDepth 100000 in
theorem kF_2_92 : Cond.fieldLink "StageChip" 92 "StageChip" "cycleCount" "I" ∈ sc_G := sc_inG 97 (by decide +kernel) (by decide +kernel)
set_option maxRecDepth 100000 in
theorem mo_19 : sc_MO 19 1 := ⟨by decide, ⟨by decide, by decide, by decide +kernel⟩, by decide, sc_inG 300 rfl rfl, sc_inG 1 (by decide +kernel) (by decide +kernel)⟩
set_option maxRecDepth 100000 in
theorem kI_19 : Cond.instanceMethod ⟨"StageChip", "leaveEndsCycle", "(LStageChip$Flight;)Z"⟩ ∈ sc_G := sc_inG 299 (by decide +kernel) (by decide +kernel)
set_option maxRecDepth 100000 in
theorem kL_19 : Cond.selects "StageChip" ⟨"StageChip", "leaveEndsCycle", "(LStageChip$Flight;)Z"⟩ ⟨"StageChip", "leaveEndsCycle", "(LStageChip$Flight;)Z"⟩ ∈ sc_G := sc_inS 3 (by decide +kernel) (by decide +kernel)
set_option maxRecDepth 100000 in
theorem kM_2_119 : Cond.methodLink "StageChip" 119 ⟨"StageChip", "leaveEndsCycle", "(LStageChip$Flight;)Z"⟩ ∈ sc_G := sc_inG 297 (by decide +kernel) (by decide +kernel)
set_option maxRecDepth 100000 in
theorem mo_21 : sc_MO 21 1 := ⟨by decide, ⟨by decide, by decide, by decide +kernel⟩, by decide, sc_inG 327 rfl rfl, sc_inG 1 (by decide +kernel) (by decide +kernel)⟩
set_option maxRecDepth 100000 in
theorem kI_21 : Cond.instanceMethod ⟨"StageChip", "passMemory", "(LStageChip$Flight;)V"⟩ ∈ sc_G := sc_inG 326 (by decide +kernel) (by decide +kernel)
set_option maxRecDepth 100000 in
theorem kL_21 : Cond.selects "StageChip" ⟨"StageChip", "passMemory", "(LStageChip$Flight;)V"⟩ ⟨"StageChip", "passMemory", "(LStageChip$Flight;)V"⟩ ∈ sc_G := sc_inS 9 (by decide +kernel) (by decide +kernel)
set_option maxRecDepth 100000 in
theorem kM_2_123 : Cond.methodLink "StageChip" 123 ⟨"StageChip", "passMemory", "(LStageChip$Flight;)V"⟩ ∈ sc_G := sc_inG 324 (by decide +kernel) (by decide +kernel)
set_option maxRecDepth 100000 in
theorem mo_33 : sc_MO 33 1 := ⟨by decide, ⟨by decide, by decide, by decide +kernel⟩, by decide, sc_inG 335 rfl rfl, sc_inG 1 (by decide +kernel) (by decide +kernel)⟩
set_option maxRecDepth 100000 in
theorem kI_33 : Cond.instanceMethod ⟨"StageChip", "workInReached", "(LStageChip$Flight;)V"⟩ ∈ sc_G := sc_inG 334 (by decide +kernel) (by decide +kernel)
set_option maxRecDepth 100000 in
theorem kL_33 : Cond.selects "StageChip" ⟨"StageChip", "workInReached", "(LStageChip$Flight;)V"⟩ ⟨"StageChip", "workInReached", "(LStageChip$Flight;)V"⟩ ∈ sc_G := sc_inS 11 (by decide +kernel) (by decide +kernel)
set_option maxRecDepth 100000 in
theorem kM_2_127 : Cond.methodLink "StageChip" 127 ⟨"StageChip", "workInReached", "(LStageChip$Flight;)V"⟩ ∈ sc_G := sc_inG 332 (by decide +kernel) (by decide +kernel)
set_option maxRecDepth 100000 in
theorem mo_35 : sc_MO 35 1 := ⟨by decide, ⟨by decide, by decide, by decide +kernel⟩, by decide, sc_inG 402 rfl rfl, sc_inG 1 (by decide +kernel) (by decide +kernel)⟩
set_option maxRecDepth 100000 in
theorem kI_35 : Cond.instanceMethod ⟨"StageChip", "fetchIfFree", "(LStageChip$Flight;)V"⟩ ∈ sc_G := sc_inG 401 (by decide +kernel) (by decide +kernel)
set_option maxRecDepth 100000 in
theorem kL_35 : Cond.selects "StageChip" ⟨"StageChip", "fetchIfFree", "(LStageChip$Flight;)V"⟩ ⟨"StageChip", "fetchIfFree", "(LStageChip$Flight;)V"⟩ ∈ sc_G := sc_inS 22 (by decide +kernel) (by decide +kernel)
set_option maxRecDepth 100000 in
theorem kM_2_133 : Cond.methodLink "StageChip" 133 ⟨"StageChip", "fetchIfFree", "(LStageChip$Flight;)V"⟩ ∈ sc_G := sc_inG 399 (by decide +kernel) (by decide +kernel)
set_option maxRecDepth 100000 in
theorem mo_9 : sc_MO 9 3 := ⟨by decide, ⟨by decide, by decide, by decide +kernel⟩, by decide, sc_inG 222 rfl rfl, sc_inG 1 (by decide +kernel) (by decide +kernel)⟩
set_option maxRecDepth 100000 in
theorem kM_2_48 : Cond.methodLink "StageChip" 48 ⟨"StageChip", "checkArgument", "(III)V"⟩ ∈ sc_G := sc_inG 220 (by decide +kernel) (by decide +kernel)
set_option maxRecDepth 100000 in
theorem kS_9 : Cond.static ⟨"StageChip", "checkArgument", "(III)V"⟩ ∈ sc_G := sc_inG 221 (by decide +kernel) (by decide +kernel)
set_option maxRecDepth 100000 in
theorem mo_36 : sc_MO 36 0 := ⟨by decide, ⟨by decide, by decide, by decide +kernel⟩, by decide, sc_inG 296 rfl rfl, sc_inG 1 (by decide +kernel) (by decide +kernel)⟩
set_option maxRecDepth 100000 in
theorem kI_36 : Cond.instanceMethod ⟨"StageChip", "runCycle", "()V"⟩ ∈ sc_G := sc_inG 295 (by decide +kernel) (by decide +kernel)
set_option maxRecDepth 100000 in
theorem kL_36 : Cond.selects "StageChip" ⟨"StageChip", "runCycle", "()V"⟩ ⟨"StageChip", "runCycle", "()V"⟩ ∈ sc_G := sc_inS 2 (by decide +kernel) (by decide +kernel)
set_option maxRecDepth 100000 in
theorem kM_2_77 : Cond.methodLink "StageChip" 77 ⟨"StageChip", "runCycle", "()V"⟩ ∈ sc_G := sc_inG 293 (by decide +kernel) (by decide +kernel)
set_option maxRecDepth 100000 in
theorem kF_3_71 : Cond.fieldLink "StageChipModel" 71 "StageChipModel" "thrown" "I" ∈ sc_G := sc_inG 442 (by decide +kernel) (by decide +kernel)
set_option maxRecDepth 100000 in
theorem mo_43 : sc_MO 43 3 := ⟨by decide, ⟨by decide, by decide, by decide +kernel⟩, by decide, sc_inG 554 rfl rfl, sc_inG 4 (by decide +kernel) (by decide +kernel)⟩
set_option maxRecDepth 100000 in
theorem kI_43 : Cond.instanceMethod ⟨"StageChipModel", "out", "(III)Z"⟩ ∈ sc_G := sc_inG 553 (by decide +kernel) (by decide +kernel)
set_option maxRecDepth 100000 in
theorem kL_43 : Cond.selects "StageChipModel" ⟨"StageChipModel", "out", "(III)Z"⟩ ⟨"StageChipModel", "out", "(III)Z"⟩ ∈ sc_G := sc_inS 24 (by decide +kernel) (by decide +kernel)
set_option maxRecDepth 100000 in
theorem kM_3_75 : Cond.methodLink "StageChipModel" 75 ⟨"StageChipModel", "out", "(III)Z"⟩ ∈ sc_G := sc_inG 551 (by decide +kernel) (by decide +kernel)
set_option maxRecDepth 100000 in
theorem mo_44 : sc_MO 44 3 := ⟨by decide, ⟨by decide, by decide, by decide +kernel⟩, by decide, sc_inG 557 rfl rfl, sc_inG 4 (by decide +kernel) (by decide +kernel)⟩
set_option maxRecDepth 100000 in
theorem kM_3_79 : Cond.methodLink "StageChipModel" 79 ⟨"StageChipModel", "in", "(III)Z"⟩ ∈ sc_G := sc_inG 555 (by decide +kernel) (by decide +kernel)
set_option maxRecDepth 100000 in
theorem kS_44 : Cond.static ⟨"StageChipModel", "in", "(III)Z"⟩ ∈ sc_G := sc_inG 556 (by decide +kernel) (by decide +kernel)
set_option maxRecDepth 100000 in
theorem kF_3_7 : Cond.fieldLink "StageChipModel" 7 "StageChipModel" "operations" "[I" ∈ sc_G := sc_inG 443 (by decide +kernel) (by decide +kernel)
set_option maxRecDepth 100000 in
theorem kF_3_13 : Cond.fieldLink "StageChipModel" 13 "StageChipModel" "ds" "[I" ∈ sc_G := sc_inG 444 (by decide +kernel) (by decide +kernel)
set_option maxRecDepth 100000 in
theorem kF_3_16 : Cond.fieldLink "StageChipModel" 16 "StageChipModel" "ss" "[I" ∈ sc_G := sc_inG 445 (by decide +kernel) (by decide +kernel)
set_option maxRecDepth 100000 in
theorem kF_3_19 : Cond.fieldLink "StageChipModel" 19 "StageChipModel" "ts" "[I" ∈ sc_G := sc_inG 446 (by decide +kernel) (by decide +kernel)
set_option maxRecDepth 100000 in
theorem kF_3_22 : Cond.fieldLink "StageChipModel" 22 "StageChipModel" "ns" "[I" ∈ sc_G := sc_inG 447 (by decide +kernel) (by decide +kernel)
set_option maxRecDepth 100000 in
theorem kF_3_25 : Cond.fieldLink "StageChipModel" 25 "StageChipModel" "data" "[I" ∈ sc_G := sc_inG 448 (by decide +kernel) (by decide +kernel)
set_option maxRecDepth 100000 in
theorem kF_3_28 : Cond.fieldLink "StageChipModel" 28 "StageChipModel" "registers" "[I" ∈ sc_G := sc_inG 449 (by decide +kernel) (by decide +kernel)
set_option maxRecDepth 100000 in
theorem kF_3_34 : Cond.fieldLink "StageChipModel" 34 "StageChipModel" "there" "[Z" ∈ sc_G := sc_inG 451 (by decide +kernel) (by decide +kernel)
set_option maxRecDepth 100000 in
theorem mo_50 : sc_MO 50 0 := ⟨by decide, ⟨by decide, by decide, by decide +kernel⟩, by decide, sc_inG 581 rfl rfl, sc_inG 4 (by decide +kernel) (by decide +kernel)⟩
set_option maxRecDepth 100000 in
theorem kI_50 : Cond.instanceMethod ⟨"StageChipModel", "empty", "()V"⟩ ∈ sc_G := sc_inG 580 (by decide +kernel) (by decide +kernel)
set_option maxRecDepth 100000 in
theorem kL_50 : Cond.selects "StageChipModel" ⟨"StageChipModel", "empty", "()V"⟩ ⟨"StageChipModel", "empty", "()V"⟩ ∈ sc_G := sc_inS 25 (by decide +kernel) (by decide +kernel)
set_option maxRecDepth 100000 in
theorem kM_3_82 : Cond.methodLink "StageChipModel" 82 ⟨"StageChipModel", "empty", "()V"⟩ ∈ sc_G := sc_inG 578 (by decide +kernel) (by decide +kernel)
set_option maxRecDepth 100000 in
theorem kF_3_85 : Cond.fieldLink "StageChipModel" 85 "StageChipModel" "where" "I" ∈ sc_G := sc_inG 463 (by decide +kernel) (by decide +kernel)
set_option maxRecDepth 100000 in
theorem kF_3_88 : Cond.fieldLink "StageChipModel" 88 "StageChipModel" "halted" "Z" ∈ sc_G := sc_inG 467 (by decide +kernel) (by decide +kernel)
set_option maxRecDepth 100000 in
theorem kF_3_92 : Cond.fieldLink "StageChipModel" 92 "StageChipModel" "handlerAt" "I" ∈ sc_G := sc_inG 464 (by decide +kernel) (by decide +kernel)
set_option maxRecDepth 100000 in
theorem kF_3_38 : Cond.fieldLink "StageChipModel" 38 "StageChipModel" "place" "[I" ∈ sc_G := sc_inG 452 (by decide +kernel) (by decide +kernel)
set_option maxRecDepth 100000 in
theorem kF_3_41 : Cond.fieldLink "StageChipModel" 41 "StageChipModel" "op" "[I" ∈ sc_G := sc_inG 453 (by decide +kernel) (by decide +kernel)
set_option maxRecDepth 100000 in
theorem kF_3_44 : Cond.fieldLink "StageChipModel" 44 "StageChipModel" "d" "[I" ∈ sc_G := sc_inG 454 (by decide +kernel) (by decide +kernel)
set_option maxRecDepth 100000 in
theorem kF_3_47 : Cond.fieldLink "StageChipModel" 47 "StageChipModel" "s" "[I" ∈ sc_G := sc_inG 455 (by decide +kernel) (by decide +kernel)
set_option maxRecDepth 100000 in
theorem kF_3_50 : Cond.fieldLink "StageChipModel" 50 "StageChipModel" "t" "[I" ∈ sc_G := sc_inG 456 (by decide +kernel) (by decide +kernel)
set_option maxRecDepth 100000 in
theorem kF_3_53 : Cond.fieldLink "StageChipModel" 53 "StageChipModel" "n" "[I" ∈ sc_G := sc_inG 457 (by decide +kernel) (by decide +kernel)
set_option maxRecDepth 100000 in
theorem kF_3_56 : Cond.fieldLink "StageChipModel" 56 "StageChipModel" "guess" "[I" ∈ sc_G := sc_inG 458 (by decide +kernel) (by decide +kernel)
set_option maxRecDepth 100000 in
theorem kF_3_59 : Cond.fieldLink "StageChipModel" 59 "StageChipModel" "value" "[I" ∈ sc_G := sc_inG 459 (by decide +kernel) (by decide +kernel)
set_option maxRecDepth 100000 in
theorem kF_3_62 : Cond.fieldLink "StageChipModel" 62 "StageChipModel" "address" "[I" ∈ sc_G := sc_inG 460 (by decide +kernel) (by decide +kernel)
set_option maxRecDepth 100000 in
theorem kF_3_65 : Cond.fieldLink "StageChipModel" 65 "StageChipModel" "fault" "[I" ∈ sc_G := sc_inG 461 (by decide +kernel) (by decide +kernel)
set_option maxRecDepth 100000 in
theorem kF_3_95 : Cond.fieldLink "StageChipModel" 95 "StageChipModel" "faults" "I" ∈ sc_G := sc_inG 472 (by decide +kernel) (by decide +kernel)
set_option maxRecDepth 100000 in
theorem kF_3_98 : Cond.fieldLink "StageChipModel" 98 "StageChipModel" "cause" "I" ∈ sc_G := sc_inG 465 (by decide +kernel) (by decide +kernel)
set_option maxRecDepth 100000 in
theorem kF_3_101 : Cond.fieldLink "StageChipModel" 101 "StageChipModel" "back" "I" ∈ sc_G := sc_inG 466 (by decide +kernel) (by decide +kernel)
set_option maxRecDepth 100000 in
theorem mo_53 : sc_MO 53 1 := ⟨by decide, ⟨by decide, by decide, by decide +kernel⟩, by decide, sc_inG 600 rfl rfl, sc_inG 4 (by decide +kernel) (by decide +kernel)⟩
set_option maxRecDepth 100000 in
theorem kM_3_104 : Cond.methodLink "StageChipModel" 104 ⟨"StageChipModel", "writes", "(I)Z"⟩ ∈ sc_G := sc_inG 598 (by decide +kernel) (by decide +kernel)
set_option maxRecDepth 100000 in
theorem kS_53 : Cond.static ⟨"StageChipModel", "writes", "(I)Z"⟩ ∈ sc_G := sc_inG 599 (by decide +kernel) (by decide +kernel)
set_option maxRecDepth 100000 in
theorem kF_3_108 : Cond.fieldLink "StageChipModel" 108 "StageChipModel" "done" "I" ∈ sc_G := sc_inG 469 (by decide +kernel) (by decide +kernel)
set_option maxRecDepth 100000 in
theorem kF_3_68 : Cond.fieldLink "StageChipModel" 68 "StageChipModel" "last" "[I" ∈ sc_G := sc_inG 474 (by decide +kernel) (by decide +kernel)
set_option maxRecDepth 100000 in
theorem kF_3_111 : Cond.fieldLink "StageChipModel" 111 "StageChipModel" "kept" "I" ∈ sc_G := sc_inG 473 (by decide +kernel) (by decide +kernel)
set_option maxRecDepth 100000 in
theorem mo_56 : sc_MO 56 1 := ⟨by decide, ⟨by decide, by decide, by decide +kernel⟩, by decide, sc_inG 608 rfl rfl, sc_inG 4 (by decide +kernel) (by decide +kernel)⟩
set_option maxRecDepth 100000 in
theorem kI_56 : Cond.instanceMethod ⟨"StageChipModel", "move", "(I)V"⟩ ∈ sc_G := sc_inG 607 (by decide +kernel) (by decide +kernel)
set_option maxRecDepth 100000 in
theorem kL_56 : Cond.selects "StageChipModel" ⟨"StageChipModel", "move", "(I)V"⟩ ⟨"StageChipModel", "move", "(I)V"⟩ ∈ sc_G := sc_inS 29 (by decide +kernel) (by decide +kernel)
set_option maxRecDepth 100000 in
theorem kM_3_114 : Cond.methodLink "StageChipModel" 114 ⟨"StageChipModel", "move", "(I)V"⟩ ∈ sc_G := sc_inG 605 (by decide +kernel) (by decide +kernel)
set_option maxRecDepth 100000 in
theorem mo_59 : sc_MO 59 1 := ⟨by decide, ⟨by decide, by decide, by decide +kernel⟩, by decide, sc_inG 626 rfl rfl, sc_inG 4 (by decide +kernel) (by decide +kernel)⟩
set_option maxRecDepth 100000 in
theorem kI_59 : Cond.instanceMethod ⟨"StageChipModel", "read", "(I)I"⟩ ∈ sc_G := sc_inG 625 (by decide +kernel) (by decide +kernel)
set_option maxRecDepth 100000 in
theorem kL_59 : Cond.selects "StageChipModel" ⟨"StageChipModel", "read", "(I)I"⟩ ⟨"StageChipModel", "read", "(I)I"⟩ ∈ sc_G := sc_inS 32 (by decide +kernel) (by decide +kernel)
set_option maxRecDepth 100000 in
theorem kM_3_118 : Cond.methodLink "StageChipModel" 118 ⟨"StageChipModel", "read", "(I)I"⟩ ∈ sc_G := sc_inG 623 (by decide +kernel) (by decide +kernel)
set_option maxRecDepth 100000 in
theorem mo_60 : sc_MO 60 3 := ⟨by decide, ⟨by decide, by decide, by decide +kernel⟩, by decide, sc_inG 629 rfl rfl, sc_inG 4 (by decide +kernel) (by decide +kernel)⟩
set_option maxRecDepth 100000 in
theorem kM_3_122 : Cond.methodLink "StageChipModel" 122 ⟨"StageChipModel", "reckon", "(III)I"⟩ ∈ sc_G := sc_inG 627 (by decide +kernel) (by decide +kernel)
set_option maxRecDepth 100000 in
theorem kS_60 : Cond.static ⟨"StageChipModel", "reckon", "(III)I"⟩ ∈ sc_G := sc_inG 628 (by decide +kernel) (by decide +kernel)
set_option maxRecDepth 100000 in
theorem kF_3_31 : Cond.fieldLink "StageChipModel" 31 "StageChipModel" "counters" "[I" ∈ sc_G := sc_inG 450 (by decide +kernel) (by decide +kernel)
set_option maxRecDepth 100000 in
theorem mo_54 : sc_MO 54 1 := ⟨by decide, ⟨by decide, by decide, by decide +kernel⟩, by decide, sc_inG 615 rfl rfl, sc_inG 4 (by decide +kernel) (by decide +kernel)⟩
set_option maxRecDepth 100000 in
theorem kM_3_126 : Cond.methodLink "StageChipModel" 126 ⟨"StageChipModel", "usesFirst", "(I)Z"⟩ ∈ sc_G := sc_inG 613 (by decide +kernel) (by decide +kernel)
set_option maxRecDepth 100000 in
theorem kS_54 : Cond.static ⟨"StageChipModel", "usesFirst", "(I)Z"⟩ ∈ sc_G := sc_inG 614 (by decide +kernel) (by decide +kernel)
set_option maxRecDepth 100000 in
theorem mo_55 : sc_MO 55 1 := ⟨by decide, ⟨by decide, by decide, by decide +kernel⟩, by decide, sc_inG 618 rfl rfl, sc_inG 4 (by decide +kernel) (by decide +kernel)⟩
set_option maxRecDepth 100000 in
theorem kM_3_129 : Cond.methodLink "StageChipModel" 129 ⟨"StageChipModel", "usesSecond", "(I)Z"⟩ ∈ sc_G := sc_inG 616 (by decide +kernel) (by decide +kernel)
set_option maxRecDepth 100000 in
theorem kS_55 : Cond.static ⟨"StageChipModel", "usesSecond", "(I)Z"⟩ ∈ sc_G := sc_inG 617 (by decide +kernel) (by decide +kernel)
set_option maxRecDepth 100000 in
theorem kF_3_132 : Cond.fieldLink "StageChipModel" 132 "StageChipModel" "waits" "I" ∈ sc_G := sc_inG 470 (by decide +kernel) (by decide +kernel)
set_option maxRecDepth 100000 in
theorem kF_3_135 : Cond.fieldLink "StageChipModel" 135 "StageChipModel" "left" "I" ∈ sc_G := sc_inG 462 (by decide +kernel) (by decide +kernel)
set_option maxRecDepth 100000 in
theorem mo_61 : sc_MO 61 0 := ⟨by decide, ⟨by decide, by decide, by decide +kernel⟩, by decide, sc_inG 622 rfl rfl, sc_inG 4 (by decide +kernel) (by decide +kernel)⟩
set_option maxRecDepth 100000 in
theorem kI_61 : Cond.instanceMethod ⟨"StageChipModel", "work", "()I"⟩ ∈ sc_G := sc_inG 621 (by decide +kernel) (by decide +kernel)
set_option maxRecDepth 100000 in
theorem kL_61 : Cond.selects "StageChipModel" ⟨"StageChipModel", "work", "()I"⟩ ⟨"StageChipModel", "work", "()I"⟩ ∈ sc_G := sc_inS 31 (by decide +kernel) (by decide +kernel)
set_option maxRecDepth 100000 in
theorem kM_3_138 : Cond.methodLink "StageChipModel" 138 ⟨"StageChipModel", "work", "()I"⟩ ∈ sc_G := sc_inG 619 (by decide +kernel) (by decide +kernel)
set_option maxRecDepth 100000 in
theorem kF_3_142 : Cond.fieldLink "StageChipModel" 142 "StageChipModel" "differed" "I" ∈ sc_G := sc_inG 471 (by decide +kernel) (by decide +kernel)
set_option maxRecDepth 100000 in
theorem kF_3_145 : Cond.fieldLink "StageChipModel" 145 "StageChipModel" "all" "I" ∈ sc_G := sc_inG 468 (by decide +kernel) (by decide +kernel)
set_option maxRecDepth 100000 in
theorem mo_57 : sc_MO 57 0 := ⟨by decide, ⟨by decide, by decide, by decide +kernel⟩, by decide, sc_inG 597 rfl rfl, sc_inG 4 (by decide +kernel) (by decide +kernel)⟩
set_option maxRecDepth 100000 in
theorem kI_57 : Cond.instanceMethod ⟨"StageChipModel", "leave", "()Z"⟩ ∈ sc_G := sc_inG 596 (by decide +kernel) (by decide +kernel)
set_option maxRecDepth 100000 in
theorem kL_57 : Cond.selects "StageChipModel" ⟨"StageChipModel", "leave", "()Z"⟩ ⟨"StageChipModel", "leave", "()Z"⟩ ∈ sc_G := sc_inS 27 (by decide +kernel) (by decide +kernel)
set_option maxRecDepth 100000 in
theorem kM_3_148 : Cond.methodLink "StageChipModel" 148 ⟨"StageChipModel", "leave", "()Z"⟩ ∈ sc_G := sc_inG 594 (by decide +kernel) (by decide +kernel)
set_option maxRecDepth 100000 in
theorem mo_58 : sc_MO 58 0 := ⟨by decide, ⟨by decide, by decide, by decide +kernel⟩, by decide, sc_inG 604 rfl rfl, sc_inG 4 (by decide +kernel) (by decide +kernel)⟩
set_option maxRecDepth 100000 in
theorem kI_58 : Cond.instanceMethod ⟨"StageChipModel", "remember", "()V"⟩ ∈ sc_G := sc_inG 603 (by decide +kernel) (by decide +kernel)
set_option maxRecDepth 100000 in
theorem kL_58 : Cond.selects "StageChipModel" ⟨"StageChipModel", "remember", "()V"⟩ ⟨"StageChipModel", "remember", "()V"⟩ ∈ sc_G := sc_inS 28 (by decide +kernel) (by decide +kernel)
set_option maxRecDepth 100000 in
theorem kM_3_152 : Cond.methodLink "StageChipModel" 152 ⟨"StageChipModel", "remember", "()V"⟩ ∈ sc_G := sc_inG 601 (by decide +kernel) (by decide +kernel)
set_option maxRecDepth 100000 in
theorem mo_62 : sc_MO 62 1 := ⟨by decide, ⟨by decide, by decide, by decide +kernel⟩, by decide, sc_inG 612 rfl rfl, sc_inG 4 (by decide +kernel) (by decide +kernel)⟩
set_option maxRecDepth 100000 in
theorem kI_62 : Cond.instanceMethod ⟨"StageChipModel", "reach", "(I)V"⟩ ∈ sc_G := sc_inG 611 (by decide +kernel) (by decide +kernel)
set_option maxRecDepth 100000 in
theorem kL_62 : Cond.selects "StageChipModel" ⟨"StageChipModel", "reach", "(I)V"⟩ ⟨"StageChipModel", "reach", "(I)V"⟩ ∈ sc_G := sc_inS 30 (by decide +kernel) (by decide +kernel)
set_option maxRecDepth 100000 in
theorem kM_3_155 : Cond.methodLink "StageChipModel" 155 ⟨"StageChipModel", "reach", "(I)V"⟩ ∈ sc_G := sc_inG 609 (by decide +kernel) (by decide +kernel)
set_option maxRecDepth 100000 in
theorem mo_63 : sc_MO 63 0 := ⟨by decide, ⟨by decide, by decide, by decide +kernel⟩, by decide, sc_inG 633 rfl rfl, sc_inG 4 (by decide +kernel) (by decide +kernel)⟩
set_option maxRecDepth 100000 in
theorem kI_63 : Cond.instanceMethod ⟨"StageChipModel", "fetch", "()V"⟩ ∈ sc_G := sc_inG 632 (by decide +kernel) (by decide +kernel)
set_option maxRecDepth 100000 in
theorem kL_63 : Cond.selects "StageChipModel" ⟨"StageChipModel", "fetch", "()V"⟩ ⟨"StageChipModel", "fetch", "()V"⟩ ∈ sc_G := sc_inS 33 (by decide +kernel) (by decide +kernel)
set_option maxRecDepth 100000 in
theorem kM_3_158 : Cond.methodLink "StageChipModel" 158 ⟨"StageChipModel", "fetch", "()V"⟩ ∈ sc_G := sc_inG 630 (by decide +kernel) (by decide +kernel)
set_option maxRecDepth 100000 in
theorem mo_64 : sc_MO 64 0 := ⟨by decide, ⟨by decide, by decide, by decide +kernel⟩, by decide, sc_inG 593 rfl rfl, sc_inG 4 (by decide +kernel) (by decide +kernel)⟩
set_option maxRecDepth 100000 in
theorem kI_64 : Cond.instanceMethod ⟨"StageChipModel", "cycle", "()V"⟩ ∈ sc_G := sc_inG 592 (by decide +kernel) (by decide +kernel)
set_option maxRecDepth 100000 in
theorem kL_64 : Cond.selects "StageChipModel" ⟨"StageChipModel", "cycle", "()V"⟩ ⟨"StageChipModel", "cycle", "()V"⟩ ∈ sc_G := sc_inS 26 (by decide +kernel) (by decide +kernel)
set_option maxRecDepth 100000 in
theorem kM_3_161 : Cond.methodLink "StageChipModel" 161 ⟨"StageChipModel", "cycle", "()V"⟩ ∈ sc_G := sc_inG 590 (by decide +kernel) (by decide +kernel)
set_option maxRecDepth 100000 in
set_option maxHeartbeats 4000000 in
theorem ts_X0_does : sc_TS yX0_does cX0_does 2 (some .boolean) st_X0_does :=
  sc_tc (sc_s_aload_n dX0_does_0 rfl) (
  sc_tc (sc_s_get dX0_does_1 (by decide) (by decide) kF_0_15) (
  sc_tc (sc_s_if_eq dX0_does_4 (by decide)) (
  sc_tc (sc_s_aload_n dX0_does_7 rfl) (
  sc_tc (sc_s_get dX0_does_8 (by decide) (by decide) kF_0_19) (
  sc_tc (sc_s_if_ne dX0_does_11 (by decide)) (
  sc_tc (sc_s_aload_n dX0_does_14 rfl) (
  sc_tc (sc_s_get dX0_does_15 (by decide) (by decide) kF_0_9) (
  sc_tc (sc_s_getN dX0_does_18 (by decide) (by decide) kN_0_23) (
  sc_tc (sc_s_iload_n dX0_does_21 rfl) (
  sc_tc (sc_s_icmp_ne dX0_does_22 (by decide)) (
  sc_tc (sc_s_iconst dX0_does_25 (by decide)) (
  sc_tc (sc_s_goto dX0_does_26 (by decide)) (
  sc_tc (sc_s_iconst dX0_does_29 (by decide)) (
  sc_tc (sc_s_retZ dX0_does_30 rfl) ( trivial)))))))))))))))
set_option maxRecDepth 100000 in
set_option maxHeartbeats 4000000 in
theorem ts_X1_writesD : sc_TS yX1_writesD cX1_writesD 1 (some .boolean) st_X1_writesD :=
  sc_tc (sc_s_aload_n dX1_writesD_0 rfl) (
  sc_tc (sc_s_get dX1_writesD_1 (by decide) (by decide) kF_1_9) (
  sc_tc (sc_s_bipush dX1_writesD_4 (by decide)) (
  sc_tc (sc_s_icmp_le dX1_writesD_6 (by decide)) (
  sc_tc (sc_s_aload_n dX1_writesD_9 rfl) (
  sc_tc (sc_s_get dX1_writesD_10 (by decide) (by decide) kF_1_9) (
  sc_tc (sc_s_bipush dX1_writesD_13 (by decide)) (
  sc_tc (sc_s_icmp_eq dX1_writesD_15 (by decide)) (
  sc_tc (sc_s_aload_n dX1_writesD_18 rfl) (
  sc_tc (sc_s_get dX1_writesD_19 (by decide) (by decide) kF_1_9) (
  sc_tc (sc_s_bipush dX1_writesD_22 (by decide)) (
  sc_tc (sc_s_icmp_ne dX1_writesD_24 (by decide)) (
  sc_tc (sc_s_iconst dX1_writesD_27 (by decide)) (
  sc_tc (sc_s_goto dX1_writesD_28 (by decide)) (
  sc_tc (sc_s_iconst dX1_writesD_31 (by decide)) (
  sc_tc (sc_s_retZ dX1_writesD_32 rfl) ( trivial))))))))))))))))
set_option maxRecDepth 100000 in
set_option maxHeartbeats 4000000 in
theorem ts_X0_writes : sc_TS yX0_writes cX0_writes 2 (some .boolean) st_X0_writes :=
  sc_tc (sc_s_aload_n dX0_writes_0 rfl) (
  sc_tc (sc_s_get dX0_writes_1 (by decide) (by decide) kF_0_15) (
  sc_tc (sc_s_if_eq dX0_writes_4 (by decide)) (
  sc_tc (sc_s_aload_n dX0_writes_7 rfl) (
  sc_tc (sc_s_get dX0_writes_8 (by decide) (by decide) kF_0_19) (
  sc_tc (sc_s_if_ne dX0_writes_11 (by decide)) (
  sc_tc (sc_s_iload_n dX0_writes_14 rfl) (
  sc_tc (sc_s_if_eq dX0_writes_15 (by decide)) (
  sc_tc (sc_s_aload_n dX0_writes_18 rfl) (
  sc_tc (sc_s_get dX0_writes_19 (by decide) (by decide) kF_0_9) (
  sc_tc (sc_s_invN dX0_writes_22 mo_1 (by decide) rfl kG_0_28 kI_1 kL_1) (
  sc_tc (sc_s_if_eq dX0_writes_25 (by decide)) (
  sc_tc (sc_s_aload_n dX0_writes_28 rfl) (
  sc_tc (sc_s_get dX0_writes_29 (by decide) (by decide) kF_0_9) (
  sc_tc (sc_s_getN dX0_writes_32 (by decide) (by decide) kN_0_32) (
  sc_tc (sc_s_iload_n dX0_writes_35 rfl) (
  sc_tc (sc_s_icmp_ne dX0_writes_36 (by decide)) (
  sc_tc (sc_s_iconst dX0_writes_39 (by decide)) (
  sc_tc (sc_s_goto dX0_writes_40 (by decide)) (
  sc_tc (sc_s_iconst dX0_writes_43 (by decide)) (
  sc_tc (sc_s_retZ dX0_writes_44 rfl) ( trivial)))))))))))))))))))))
set_option maxRecDepth 100000 in
set_option maxHeartbeats 4000000 in
theorem ts_X1_isBranch : sc_TS yX1_isBranch cX1_isBranch 1 (some .boolean) st_X1_isBranch :=
  sc_tc (sc_s_aload_n dX1_isBranch_0 rfl) (
  sc_tc (sc_s_get dX1_isBranch_1 (by decide) (by decide) kF_1_9) (
  sc_tc (sc_s_bipush dX1_isBranch_4 (by decide)) (
  sc_tc (sc_s_icmp_eq dX1_isBranch_6 (by decide)) (
  sc_tc (sc_s_aload_n dX1_isBranch_9 rfl) (
  sc_tc (sc_s_get dX1_isBranch_10 (by decide) (by decide) kF_1_9) (
  sc_tc (sc_s_bipush dX1_isBranch_13 (by decide)) (
  sc_tc (sc_s_icmp_ne dX1_isBranch_15 (by decide)) (
  sc_tc (sc_s_iconst dX1_isBranch_18 (by decide)) (
  sc_tc (sc_s_goto dX1_isBranch_19 (by decide)) (
  sc_tc (sc_s_iconst dX1_isBranch_22 (by decide)) (
  sc_tc (sc_s_retZ dX1_isBranch_23 rfl) ( trivial))))))))))))
set_option maxRecDepth 100000 in
set_option maxHeartbeats 4000000 in
theorem ts_X1_usesT : sc_TS yX1_usesT cX1_usesT 1 (some .boolean) st_X1_usesT :=
  sc_tc (sc_s_aload_n dX1_usesT_0 rfl) (
  sc_tc (sc_s_get dX1_usesT_1 (by decide) (by decide) kF_1_9) (
  sc_tc (sc_s_bipush dX1_usesT_4 (by decide)) (
  sc_tc (sc_s_icmp_le dX1_usesT_6 (by decide)) (
  sc_tc (sc_s_aload_n dX1_usesT_9 rfl) (
  sc_tc (sc_s_get dX1_usesT_10 (by decide) (by decide) kF_1_9) (
  sc_tc (sc_s_bipush dX1_usesT_13 (by decide)) (
  sc_tc (sc_s_icmp_eq dX1_usesT_15 (by decide)) (
  sc_tc (sc_s_aload_n dX1_usesT_18 rfl) (
  sc_tc (sc_s_inv dX1_usesT_19 mo_3 (by decide) rfl kM_1_31 kI_3 kL_3) (
  sc_tc (sc_s_if_eq dX1_usesT_22 (by decide)) (
  sc_tc (sc_s_iconst dX1_usesT_25 (by decide)) (
  sc_tc (sc_s_goto dX1_usesT_26 (by decide)) (
  sc_tc (sc_s_iconst dX1_usesT_29 (by decide)) (
  sc_tc (sc_s_retZ dX1_usesT_30 rfl) ( trivial)))))))))))))))
set_option maxRecDepth 100000 in
set_option maxHeartbeats 4000000 in
theorem ts_X1_usesS : sc_TS yX1_usesS cX1_usesS 1 (some .boolean) st_X1_usesS :=
  sc_tc (sc_s_aload_n dX1_usesS_0 rfl) (
  sc_tc (sc_s_get dX1_usesS_1 (by decide) (by decide) kF_1_9) (
  sc_tc (sc_s_bipush dX1_usesS_4 (by decide)) (
  sc_tc (sc_s_icmp_le dX1_usesS_6 (by decide)) (
  sc_tc (sc_s_aload_n dX1_usesS_9 rfl) (
  sc_tc (sc_s_get dX1_usesS_10 (by decide) (by decide) kF_1_9) (
  sc_tc (sc_s_bipush dX1_usesS_13 (by decide)) (
  sc_tc (sc_s_icmp_eq dX1_usesS_15 (by decide)) (
  sc_tc (sc_s_aload_n dX1_usesS_18 rfl) (
  sc_tc (sc_s_get dX1_usesS_19 (by decide) (by decide) kF_1_9) (
  sc_tc (sc_s_bipush dX1_usesS_22 (by decide)) (
  sc_tc (sc_s_icmp_eq dX1_usesS_24 (by decide)) (
  sc_tc (sc_s_aload_n dX1_usesS_27 rfl) (
  sc_tc (sc_s_inv dX1_usesS_28 mo_4 (by decide) rfl kM_1_27 kI_4 kL_4) (
  sc_tc (sc_s_if_eq dX1_usesS_31 (by decide)) (
  sc_tc (sc_s_iconst dX1_usesS_34 (by decide)) (
  sc_tc (sc_s_goto dX1_usesS_35 (by decide)) (
  sc_tc (sc_s_iconst dX1_usesS_38 (by decide)) (
  sc_tc (sc_s_retZ dX1_usesS_39 rfl) ( trivial)))))))))))))))))))
set_option maxRecDepth 100000 in
set_option maxHeartbeats 4000000 in
theorem ts_X1_touchesData : sc_TS yX1_touchesData cX1_touchesData 1 (some .boolean) st_X1_touchesData :=
  sc_tc (sc_s_aload_n dX1_touchesData_0 rfl) (
  sc_tc (sc_s_get dX1_touchesData_1 (by decide) (by decide) kF_1_9) (
  sc_tc (sc_s_bipush dX1_touchesData_4 (by decide)) (
  sc_tc (sc_s_icmp_eq dX1_touchesData_6 (by decide)) (
  sc_tc (sc_s_aload_n dX1_touchesData_9 rfl) (
  sc_tc (sc_s_get dX1_touchesData_10 (by decide) (by decide) kF_1_9) (
  sc_tc (sc_s_bipush dX1_touchesData_13 (by decide)) (
  sc_tc (sc_s_icmp_ne dX1_touchesData_15 (by decide)) (
  sc_tc (sc_s_iconst dX1_touchesData_18 (by decide)) (
  sc_tc (sc_s_goto dX1_touchesData_19 (by decide)) (
  sc_tc (sc_s_iconst dX1_touchesData_22 (by decide)) (
  sc_tc (sc_s_retZ dX1_touchesData_23 rfl) ( trivial))))))))))))
set_option maxRecDepth 100000 in
set_option maxHeartbeats 4000000 in
theorem ts_X1_workCycles : sc_TS yX1_workCycles cX1_workCycles 1 (some .int) st_X1_workCycles :=
  sc_tc (sc_s_aload_n dX1_workCycles_0 rfl) (
  sc_tc (sc_s_get dX1_workCycles_1 (by decide) (by decide) kF_1_9) (
  sc_tc (sc_s_bipush dX1_workCycles_4 (by decide)) (
  sc_tc (sc_s_icmp_ne dX1_workCycles_6 (by decide)) (
  sc_tc (sc_s_iconst dX1_workCycles_9 (by decide)) (
  sc_tc (sc_s_retI dX1_workCycles_10 rfl) (
  sc_tc (sc_s_aload_n dX1_workCycles_11 rfl) (
  sc_tc (sc_s_get dX1_workCycles_12 (by decide) (by decide) kF_1_9) (
  sc_tc (sc_s_bipush dX1_workCycles_15 (by decide)) (
  sc_tc (sc_s_icmp_ne dX1_workCycles_17 (by decide)) (
  sc_tc (sc_s_bipush dX1_workCycles_20 (by decide)) (
  sc_tc (sc_s_goto dX1_workCycles_22 (by decide)) (
  sc_tc (sc_s_iconst dX1_workCycles_25 (by decide)) (
  sc_tc (sc_s_retI dX1_workCycles_26 rfl) ( trivial))))))))))))))
set_option maxRecDepth 100000 in
set_option maxHeartbeats 4000000 in
theorem ts_X2_checkIndex : sc_TS yX2_checkIndex cX2_checkIndex 2 none st_X2_checkIndex :=
  sc_tc (sc_s_iload_n dX2_checkIndex_0 rfl) (
  sc_tc (sc_s_if_lt dX2_checkIndex_1 (by decide)) (
  sc_tc (sc_s_iload_n dX2_checkIndex_4 rfl) (
  sc_tc (sc_s_iload_n dX2_checkIndex_5 rfl) (
  sc_tc (sc_s_icmp_lt dX2_checkIndex_6 (by decide)) (
  sc_tc (sc_s_bad) (
  sc_tc (sc_s_dup dX2_checkIndex_12) (
  sc_tc (sc_s_bad) (
  sc_tc (sc_s_bad) (
  sc_tc (sc_s_bad) (
  sc_tc (sc_s_retV dX2_checkIndex_19 rfl) ( trivial)))))))))))
set_option maxRecDepth 100000 in
set_option maxHeartbeats 4000000 in
theorem ts_X2_checkArgument : sc_TS yX2_checkArgument cX2_checkArgument 3 none st_X2_checkArgument :=
  sc_tc (sc_s_iload_n dX2_checkArgument_0 rfl) (
  sc_tc (sc_s_iload_n dX2_checkArgument_1 rfl) (
  sc_tc (sc_s_icmp_lt dX2_checkArgument_2 (by decide)) (
  sc_tc (sc_s_iload_n dX2_checkArgument_5 rfl) (
  sc_tc (sc_s_iload_n dX2_checkArgument_6 rfl) (
  sc_tc (sc_s_icmp_le dX2_checkArgument_7 (by decide)) (
  sc_tc (sc_s_bad) (
  sc_tc (sc_s_dup dX2_checkArgument_13) (
  sc_tc (sc_s_bad) (
  sc_tc (sc_s_bad) (
  sc_tc (sc_s_bad) (
  sc_tc (sc_s_retV dX2_checkArgument_20 rfl) ( trivial))))))))))))
set_option maxRecDepth 100000 in
set_option maxHeartbeats 4000000 in
theorem ts_X2_poke : sc_TS yX2_poke cX2_poke 4 (some .int) st_X2_poke :=
  sc_tc (sc_s_iload_n dX2_poke_0 rfl) (
  sc_tc (sc_s_bipush dX2_poke_1 (by decide)) (
  sc_tc (sc_s_ins dX2_poke_3 mo_8 kM_2_44 kS_8) (
  sc_tc (sc_s_aload_n dX2_poke_6 rfl) (
  sc_tc (sc_s_get dX2_poke_7 (by decide) (by decide) kF_2_22) (
  sc_tc (sc_s_iload_n dX2_poke_10 rfl) (
  sc_tc (sc_s_iaload dX2_poke_11) (
  sc_tc (sc_s_istore_n dX2_poke_12 rfl (by decide)) (
  sc_tc (sc_s_aload_n dX2_poke_13 rfl) (
  sc_tc (sc_s_get dX2_poke_14 (by decide) (by decide) kF_2_22) (
  sc_tc (sc_s_iload_n dX2_poke_17 rfl) (
  sc_tc (sc_s_iload_n dX2_poke_18 rfl) (
  sc_tc (sc_s_iastore dX2_poke_19) (
  sc_tc (sc_s_iload_n dX2_poke_20 rfl) (
  sc_tc (sc_s_retI dX2_poke_21 rfl) ( trivial)))))))))))))))
set_option maxRecDepth 100000 in
set_option maxHeartbeats 4000000 in
theorem ts_X2_peek : sc_TS yX2_peek cX2_peek 2 (some .int) st_X2_peek :=
  sc_tc (sc_s_iload_n dX2_peek_0 rfl) (
  sc_tc (sc_s_bipush dX2_peek_1 (by decide)) (
  sc_tc (sc_s_ins dX2_peek_3 mo_8 kM_2_44 kS_8) (
  sc_tc (sc_s_aload_n dX2_peek_6 rfl) (
  sc_tc (sc_s_get dX2_peek_7 (by decide) (by decide) kF_2_22) (
  sc_tc (sc_s_iload_n dX2_peek_10 rfl) (
  sc_tc (sc_s_iaload dX2_peek_11) (
  sc_tc (sc_s_retI dX2_peek_12 rfl) ( trivial))))))))
set_option maxRecDepth 100000 in
set_option maxHeartbeats 4000000 in
theorem ts_X2_set : sc_TS yX2_set cX2_set 4 (some .int) st_X2_set :=
  sc_tc (sc_s_iload_n dX2_set_0 rfl) (
  sc_tc (sc_s_bipush dX2_set_1 (by decide)) (
  sc_tc (sc_s_ins dX2_set_3 mo_8 kM_2_44 kS_8) (
  sc_tc (sc_s_iload_n dX2_set_6 rfl) (
  sc_tc (sc_s_if_ne dX2_set_7 (by decide)) (
  sc_tc (sc_s_bad) (
  sc_tc (sc_s_dup dX2_set_13) (
  sc_tc (sc_s_bad) (
  sc_tc (sc_s_bad) (
  sc_tc (sc_s_bad) (
  sc_tc (sc_s_aload_n dX2_set_20 rfl) (
  sc_tc (sc_s_get dX2_set_21 (by decide) (by decide) kF_2_26) (
  sc_tc (sc_s_iload_n dX2_set_24 rfl) (
  sc_tc (sc_s_iaload dX2_set_25) (
  sc_tc (sc_s_istore_n dX2_set_26 rfl (by decide)) (
  sc_tc (sc_s_aload_n dX2_set_27 rfl) (
  sc_tc (sc_s_get dX2_set_28 (by decide) (by decide) kF_2_26) (
  sc_tc (sc_s_iload_n dX2_set_31 rfl) (
  sc_tc (sc_s_iload_n dX2_set_32 rfl) (
  sc_tc (sc_s_iastore dX2_set_33) (
  sc_tc (sc_s_iload_n dX2_set_34 rfl) (
  sc_tc (sc_s_retI dX2_set_35 rfl) ( trivial))))))))))))))))))))))
set_option maxRecDepth 100000 in
set_option maxHeartbeats 4000000 in
theorem ts_X2_register : sc_TS yX2_register cX2_register 2 (some .int) st_X2_register :=
  sc_tc (sc_s_iload_n dX2_register_0 rfl) (
  sc_tc (sc_s_bipush dX2_register_1 (by decide)) (
  sc_tc (sc_s_ins dX2_register_3 mo_8 kM_2_44 kS_8) (
  sc_tc (sc_s_aload_n dX2_register_6 rfl) (
  sc_tc (sc_s_get dX2_register_7 (by decide) (by decide) kF_2_26) (
  sc_tc (sc_s_iload_n dX2_register_10 rfl) (
  sc_tc (sc_s_iaload dX2_register_11) (
  sc_tc (sc_s_retI dX2_register_12 rfl) ( trivial))))))))
set_option maxRecDepth 100000 in
set_option maxHeartbeats 4000000 in
theorem ts_X2_emptyStagesBelow : sc_TS yX2_emptyStagesBelow cX2_emptyStagesBelow 3 none st_X2_emptyStagesBelow :=
  sc_tc (sc_s_iconst dX2_emptyStagesBelow_0 (by decide)) (
  sc_tc (sc_s_istore_n dX2_emptyStagesBelow_1 rfl (by decide)) (
  sc_tc (sc_s_iload_n dX2_emptyStagesBelow_2 rfl) (
  sc_tc (sc_s_iload_n dX2_emptyStagesBelow_3 rfl) (
  sc_tc (sc_s_icmp_ge dX2_emptyStagesBelow_4 (by decide)) (
  sc_tc (sc_s_aload_n dX2_emptyStagesBelow_7 rfl) (
  sc_tc (sc_s_get dX2_emptyStagesBelow_8 (by decide) (by decide) kF_2_34) (
  sc_tc (sc_s_iload_n dX2_emptyStagesBelow_11 rfl) (
  sc_tc (sc_s_fload dX2_emptyStagesBelow_12) (
  sc_tc (sc_s_iconst dX2_emptyStagesBelow_13 (by decide)) (
  sc_tc (sc_s_putZN dX2_emptyStagesBelow_14 (Or.inl rfl) (by decide) rfl rfl (by decide +kernel) kN_2_80) (
  sc_tc (sc_s_iinc dX2_emptyStagesBelow_17 (by decide) (by decide)) (
  sc_tc (sc_s_goto dX2_emptyStagesBelow_20 (by decide)) (
  sc_tc (sc_s_retV dX2_emptyStagesBelow_23 rfl) ( trivial))))))))))))))
set_option maxRecDepth 100000 in
set_option maxHeartbeats 4000000 in
theorem ts_X2_start : sc_TS yX2_start cX2_start 2 none st_X2_start :=
  sc_tc (sc_s_iload_n dX2_start_0 rfl) (
  sc_tc (sc_s_bipush dX2_start_1 (by decide)) (
  sc_tc (sc_s_ins dX2_start_3 mo_8 kM_2_44 kS_8) (
  sc_tc (sc_s_aload_n dX2_start_6 rfl) (
  sc_tc (sc_s_iconst dX2_start_7 (by decide)) (
  sc_tc (sc_s_inv dX2_start_8 mo_14 (by decide) rfl kM_2_59 kI_14 kL_14) (
  sc_tc (sc_s_aload_n dX2_start_11 rfl) (
  sc_tc (sc_s_iload_n dX2_start_12 rfl) (
  sc_tc (sc_s_putI dX2_start_13 (Or.inr (Or.inl rfl)) (by decide) rfl rfl (by decide +kernel) kF_2_63) (
  sc_tc (sc_s_aload_n dX2_start_16 rfl) (
  sc_tc (sc_s_iconst dX2_start_17 (by decide)) (
  sc_tc (sc_s_putZ dX2_start_18 (Or.inr (Or.inl rfl)) (by decide) rfl rfl (by decide +kernel) kF_2_67) (
  sc_tc (sc_s_retV dX2_start_21 rfl) ( trivial)))))))))))))
set_option maxRecDepth 100000 in
set_option maxHeartbeats 4000000 in
theorem ts_X2_handler : sc_TS yX2_handler cX2_handler 3 (some .int) st_X2_handler :=
  sc_tc (sc_s_iload_n dX2_handler_0 rfl) (
  sc_tc (sc_s_bipush dX2_handler_1 (by decide)) (
  sc_tc (sc_s_ins dX2_handler_3 mo_8 kM_2_44 kS_8) (
  sc_tc (sc_s_aload_n dX2_handler_6 rfl) (
  sc_tc (sc_s_get dX2_handler_7 (by decide) (by decide) kF_2_71) (
  sc_tc (sc_s_istore_n dX2_handler_10 rfl (by decide)) (
  sc_tc (sc_s_aload_n dX2_handler_11 rfl) (
  sc_tc (sc_s_iload_n dX2_handler_12 rfl) (
  sc_tc (sc_s_putI dX2_handler_13 (Or.inr (Or.inl rfl)) (by decide) rfl rfl (by decide +kernel) kF_2_71) (
  sc_tc (sc_s_iload_n dX2_handler_16 rfl) (
  sc_tc (sc_s_retI dX2_handler_17 rfl) ( trivial)))))))))))
set_option maxRecDepth 100000 in
set_option maxHeartbeats 4000000 in
theorem ts_X2_takeFault : sc_TS yX2_takeFault cX2_takeFault 2 none st_X2_takeFault :=
  sc_tc (sc_s_aload_n dX2_takeFault_0 rfl) (
  sc_tc (sc_s_dup dX2_takeFault_1) (
  sc_tc (sc_s_get dX2_takeFault_2 (by decide) (by decide) kF_2_101) (
  sc_tc (sc_s_iconst dX2_takeFault_5 (by decide)) (
  sc_tc (sc_s_iadd dX2_takeFault_6) (
  sc_tc (sc_s_putI dX2_takeFault_7 (Or.inr (Or.inl rfl)) (by decide) rfl rfl (by decide +kernel) kF_2_101) (
  sc_tc (sc_s_aload_n dX2_takeFault_10 rfl) (
  sc_tc (sc_s_aload_n dX2_takeFault_11 rfl) (
  sc_tc (sc_s_getN dX2_takeFault_12 (by decide) (by decide) kN_2_136) (
  sc_tc (sc_s_putI dX2_takeFault_15 (Or.inr (Or.inl rfl)) (by decide) rfl rfl (by decide +kernel) kF_2_104) (
  sc_tc (sc_s_aload_n dX2_takeFault_18 rfl) (
  sc_tc (sc_s_aload_n dX2_takeFault_19 rfl) (
  sc_tc (sc_s_getN dX2_takeFault_20 (by decide) (by decide) kN_2_83) (
  sc_tc (sc_s_putI dX2_takeFault_23 (Or.inr (Or.inl rfl)) (by decide) rfl rfl (by decide +kernel) kF_2_107) (
  sc_tc (sc_s_aload_n dX2_takeFault_26 rfl) (
  sc_tc (sc_s_iconst dX2_takeFault_27 (by decide)) (
  sc_tc (sc_s_inv dX2_takeFault_28 mo_14 (by decide) rfl kM_2_59 kI_14 kL_14) (
  sc_tc (sc_s_aload_n dX2_takeFault_31 rfl) (
  sc_tc (sc_s_aload_n dX2_takeFault_32 rfl) (
  sc_tc (sc_s_get dX2_takeFault_33 (by decide) (by decide) kF_2_71) (
  sc_tc (sc_s_putI dX2_takeFault_36 (Or.inr (Or.inl rfl)) (by decide) rfl rfl (by decide +kernel) kF_2_63) (
  sc_tc (sc_s_retV dX2_takeFault_39 rfl) ( trivial))))))))))))))))))))))
set_option maxRecDepth 100000 in
set_option maxHeartbeats 4000000 in
theorem ts_X2_retire : sc_TS yX2_retire cX2_retire 3 none st_X2_retire :=
  sc_tc (sc_s_aload_n dX2_retire_0 rfl) (
  sc_tc (sc_s_getN dX2_retire_1 (by decide) (by decide) kN_2_149) (
  sc_tc (sc_s_getN dX2_retire_4 (by decide) (by decide) kN_2_152) (
  sc_tc (sc_s_istore_n dX2_retire_7 rfl (by decide)) (
  sc_tc (sc_s_aload_n dX2_retire_8 rfl) (
  sc_tc (sc_s_iload_n dX2_retire_9 rfl) (
  sc_tc (sc_s_invN dX2_retire_10 mo_2 (by decide) rfl kG_2_155 kI_2 kL_2) (
  sc_tc (sc_s_if_eq dX2_retire_13 (by decide)) (
  sc_tc (sc_s_aload_n dX2_retire_16 rfl) (
  sc_tc (sc_s_get dX2_retire_17 (by decide) (by decide) kF_2_26) (
  sc_tc (sc_s_iload_n dX2_retire_20 rfl) (
  sc_tc (sc_s_aload_n dX2_retire_21 rfl) (
  sc_tc (sc_s_getN dX2_retire_22 (by decide) (by decide) kN_2_158) (
  sc_tc (sc_s_iastore dX2_retire_25) (
  sc_tc (sc_s_aload_n dX2_retire_26 rfl) (
  sc_tc (sc_s_get dX2_retire_27 (by decide) (by decide) kF_2_41) (
  sc_tc (sc_s_aload_n dX2_retire_30 rfl) (
  sc_tc (sc_s_get dX2_retire_31 (by decide) (by decide) kF_2_74) (
  sc_tc (sc_s_bipush dX2_retire_34 (by decide)) (
  sc_tc (sc_s_ins dX2_retire_36 mo_28 kM_2_161 kS_28) (
  sc_tc (sc_s_aload_n dX2_retire_39 rfl) (
  sc_tc (sc_s_getN dX2_retire_40 (by decide) (by decide) kN_2_83) (
  sc_tc (sc_s_iastore dX2_retire_43) (
  sc_tc (sc_s_aload_n dX2_retire_44 rfl) (
  sc_tc (sc_s_dup dX2_retire_45) (
  sc_tc (sc_s_get dX2_retire_46 (by decide) (by decide) kF_2_74) (
  sc_tc (sc_s_iconst dX2_retire_49 (by decide)) (
  sc_tc (sc_s_iadd dX2_retire_50) (
  sc_tc (sc_s_putI dX2_retire_51 (Or.inr (Or.inl rfl)) (by decide) rfl rfl (by decide +kernel) kF_2_74) (
  sc_tc (sc_s_aload_n dX2_retire_54 rfl) (
  sc_tc (sc_s_iconst dX2_retire_55 (by decide)) (
  sc_tc (sc_s_putZN dX2_retire_56 (Or.inl rfl) (by decide) rfl rfl (by decide +kernel) kN_2_80) (
  sc_tc (sc_s_retV dX2_retire_59 rfl) ( trivial)))))))))))))))))))))))))))))))))
set_option maxRecDepth 100000 in
set_option maxHeartbeats 4000000 in
theorem ts_X2_leaveEndsCycle : sc_TS yX2_leaveEndsCycle cX2_leaveEndsCycle 2 (some .boolean) st_X2_leaveEndsCycle :=
  sc_tc (sc_s_aload_n dX2_leaveEndsCycle_0 rfl) (
  sc_tc (sc_s_getN dX2_leaveEndsCycle_1 (by decide) (by decide) kN_2_80) (
  sc_tc (sc_s_if_ne dX2_leaveEndsCycle_4 (by decide)) (
  sc_tc (sc_s_iconst dX2_leaveEndsCycle_7 (by decide)) (
  sc_tc (sc_s_retZ dX2_leaveEndsCycle_8 rfl) (
  sc_tc (sc_s_aload_n dX2_leaveEndsCycle_9 rfl) (
  sc_tc (sc_s_getN dX2_leaveEndsCycle_10 (by decide) (by decide) kN_2_136) (
  sc_tc (sc_s_if_eq dX2_leaveEndsCycle_13 (by decide)) (
  sc_tc (sc_s_aload_n dX2_leaveEndsCycle_16 rfl) (
  sc_tc (sc_s_aload_n dX2_leaveEndsCycle_17 rfl) (
  sc_tc (sc_s_inv dX2_leaveEndsCycle_18 mo_17 (by decide) rfl kM_2_139 kI_17 kL_17) (
  sc_tc (sc_s_iconst dX2_leaveEndsCycle_21 (by decide)) (
  sc_tc (sc_s_retZ dX2_leaveEndsCycle_22 rfl) (
  sc_tc (sc_s_aload_n dX2_leaveEndsCycle_23 rfl) (
  sc_tc (sc_s_bipush dX2_leaveEndsCycle_24 (by decide)) (
  sc_tc (sc_s_invN dX2_leaveEndsCycle_26 mo_0 (by decide) rfl kG_2_142 kI_0 kL_0) (
  sc_tc (sc_s_if_eq dX2_leaveEndsCycle_29 (by decide)) (
  sc_tc (sc_s_aload_n dX2_leaveEndsCycle_32 rfl) (
  sc_tc (sc_s_iconst dX2_leaveEndsCycle_33 (by decide)) (
  sc_tc (sc_s_inv dX2_leaveEndsCycle_34 mo_14 (by decide) rfl kM_2_59 kI_14 kL_14) (
  sc_tc (sc_s_aload_n dX2_leaveEndsCycle_37 rfl) (
  sc_tc (sc_s_iconst dX2_leaveEndsCycle_38 (by decide)) (
  sc_tc (sc_s_putZ dX2_leaveEndsCycle_39 (Or.inr (Or.inl rfl)) (by decide) rfl rfl (by decide +kernel) kF_2_67) (
  sc_tc (sc_s_iconst dX2_leaveEndsCycle_42 (by decide)) (
  sc_tc (sc_s_retZ dX2_leaveEndsCycle_43 rfl) (
  sc_tc (sc_s_aload_n dX2_leaveEndsCycle_44 rfl) (
  sc_tc (sc_s_aload_n dX2_leaveEndsCycle_45 rfl) (
  sc_tc (sc_s_inv dX2_leaveEndsCycle_46 mo_18 (by decide) rfl kM_2_146 kI_18 kL_18) (
  sc_tc (sc_s_iconst dX2_leaveEndsCycle_49 (by decide)) (
  sc_tc (sc_s_retZ dX2_leaveEndsCycle_50 rfl) ( trivial))))))))))))))))))))))))))))))
set_option maxRecDepth 100000 in
set_option maxHeartbeats 4000000 in
theorem ts_X2_moveOnIfFree : sc_TS yX2_moveOnIfFree cX2_moveOnIfFree 3 none st_X2_moveOnIfFree :=
  sc_tc (sc_s_aload_n dX2_moveOnIfFree_0 rfl) (
  sc_tc (sc_s_get dX2_moveOnIfFree_1 (by decide) (by decide) kF_2_34) (
  sc_tc (sc_s_iload_n dX2_moveOnIfFree_4 rfl) (
  sc_tc (sc_s_iconst dX2_moveOnIfFree_5 (by decide)) (
  sc_tc (sc_s_iadd dX2_moveOnIfFree_6) (
  sc_tc (sc_s_fload dX2_moveOnIfFree_7) (
  sc_tc (sc_s_getN dX2_moveOnIfFree_8 (by decide) (by decide) kN_2_80) (
  sc_tc (sc_s_if_ne dX2_moveOnIfFree_11 (by decide)) (
  sc_tc (sc_s_aload_n dX2_moveOnIfFree_14 rfl) (
  sc_tc (sc_s_get dX2_moveOnIfFree_15 (by decide) (by decide) kF_2_34) (
  sc_tc (sc_s_iload_n dX2_moveOnIfFree_18 rfl) (
  sc_tc (sc_s_fload dX2_moveOnIfFree_19) (
  sc_tc (sc_s_astore_n dX2_moveOnIfFree_20 rfl (by decide)) (
  sc_tc (sc_s_aload_n dX2_moveOnIfFree_21 rfl) (
  sc_tc (sc_s_get dX2_moveOnIfFree_22 (by decide) (by decide) kF_2_34) (
  sc_tc (sc_s_iload_n dX2_moveOnIfFree_25 rfl) (
  sc_tc (sc_s_aload_n dX2_moveOnIfFree_26 rfl) (
  sc_tc (sc_s_get dX2_moveOnIfFree_27 (by decide) (by decide) kF_2_34) (
  sc_tc (sc_s_iload_n dX2_moveOnIfFree_30 rfl) (
  sc_tc (sc_s_iconst dX2_moveOnIfFree_31 (by decide)) (
  sc_tc (sc_s_iadd dX2_moveOnIfFree_32) (
  sc_tc (sc_s_fload dX2_moveOnIfFree_33) (
  sc_tc (sc_s_fstore dX2_moveOnIfFree_34) (
  sc_tc (sc_s_aload_n dX2_moveOnIfFree_35 rfl) (
  sc_tc (sc_s_get dX2_moveOnIfFree_36 (by decide) (by decide) kF_2_34) (
  sc_tc (sc_s_iload_n dX2_moveOnIfFree_39 rfl) (
  sc_tc (sc_s_iconst dX2_moveOnIfFree_40 (by decide)) (
  sc_tc (sc_s_iadd dX2_moveOnIfFree_41) (
  sc_tc (sc_s_aload_n dX2_moveOnIfFree_42 rfl) (
  sc_tc (sc_s_fstore dX2_moveOnIfFree_43) (
  sc_tc (sc_s_retV dX2_moveOnIfFree_44 rfl) ( trivial)))))))))))))))))))))))))))))))
set_option maxRecDepth 100000 in
set_option maxHeartbeats 4000000 in
theorem ts_X2_passMemory : sc_TS yX2_passMemory cX2_passMemory 2 none st_X2_passMemory :=
  sc_tc (sc_s_aload_n dX2_passMemory_0 rfl) (
  sc_tc (sc_s_bipush dX2_passMemory_1 (by decide)) (
  sc_tc (sc_s_invN dX2_passMemory_3 mo_0 (by decide) rfl kG_2_142 kI_0 kL_0) (
  sc_tc (sc_s_if_eq dX2_passMemory_6 (by decide)) (
  sc_tc (sc_s_aload_n dX2_passMemory_9 rfl) (
  sc_tc (sc_s_aload_n dX2_passMemory_10 rfl) (
  sc_tc (sc_s_get dX2_passMemory_11 (by decide) (by decide) kF_2_22) (
  sc_tc (sc_s_aload_n dX2_passMemory_14 rfl) (
  sc_tc (sc_s_getN dX2_passMemory_15 (by decide) (by decide) kN_2_164) (
  sc_tc (sc_s_iaload dX2_passMemory_18) (
  sc_tc (sc_s_putIN dX2_passMemory_19 (Or.inl rfl) (by decide) rfl rfl (by decide +kernel) kN_2_158) (
  sc_tc (sc_s_goto dX2_passMemory_22 (by decide)) (
  sc_tc (sc_s_aload_n dX2_passMemory_25 rfl) (
  sc_tc (sc_s_bipush dX2_passMemory_26 (by decide)) (
  sc_tc (sc_s_invN dX2_passMemory_28 mo_0 (by decide) rfl kG_2_142 kI_0 kL_0) (
  sc_tc (sc_s_if_eq dX2_passMemory_31 (by decide)) (
  sc_tc (sc_s_aload_n dX2_passMemory_34 rfl) (
  sc_tc (sc_s_get dX2_passMemory_35 (by decide) (by decide) kF_2_22) (
  sc_tc (sc_s_aload_n dX2_passMemory_38 rfl) (
  sc_tc (sc_s_getN dX2_passMemory_39 (by decide) (by decide) kN_2_164) (
  sc_tc (sc_s_aload_n dX2_passMemory_42 rfl) (
  sc_tc (sc_s_getN dX2_passMemory_43 (by decide) (by decide) kN_2_158) (
  sc_tc (sc_s_iastore dX2_passMemory_46) (
  sc_tc (sc_s_aload_n dX2_passMemory_47 rfl) (
  sc_tc (sc_s_iconst dX2_passMemory_48 (by decide)) (
  sc_tc (sc_s_inv dX2_passMemory_49 mo_20 (by decide) rfl kM_2_130 kI_20 kL_20) (
  sc_tc (sc_s_retV dX2_passMemory_52 rfl) ( trivial)))))))))))))))))))))))))))
set_option maxRecDepth 100000 in
set_option maxHeartbeats 4000000 in
theorem ts_X2_needsLoadAhead : sc_TS yX2_needsLoadAhead cX2_needsLoadAhead 3 (some .boolean) st_X2_needsLoadAhead :=
  sc_tc (sc_s_aload_n dX2_needsLoadAhead_0 rfl) (
  sc_tc (sc_s_get dX2_needsLoadAhead_1 (by decide) (by decide) kF_2_34) (
  sc_tc (sc_s_iconst dX2_needsLoadAhead_4 (by decide)) (
  sc_tc (sc_s_fload dX2_needsLoadAhead_5) (
  sc_tc (sc_s_astore_n dX2_needsLoadAhead_6 rfl (by decide)) (
  sc_tc (sc_s_aload_n dX2_needsLoadAhead_7 rfl) (
  sc_tc (sc_s_bipush dX2_needsLoadAhead_8 (by decide)) (
  sc_tc (sc_s_invN dX2_needsLoadAhead_10 mo_0 (by decide) rfl kG_2_142 kI_0 kL_0) (
  sc_tc (sc_s_if_ne dX2_needsLoadAhead_13 (by decide)) (
  sc_tc (sc_s_iconst dX2_needsLoadAhead_16 (by decide)) (
  sc_tc (sc_s_retZ dX2_needsLoadAhead_17 rfl) (
  sc_tc (sc_s_aload_n dX2_needsLoadAhead_18 rfl) (
  sc_tc (sc_s_invN dX2_needsLoadAhead_19 mo_5 (by decide) rfl kG_2_181 kI_5 kL_5) (
  sc_tc (sc_s_if_eq dX2_needsLoadAhead_22 (by decide)) (
  sc_tc (sc_s_aload_n dX2_needsLoadAhead_25 rfl) (
  sc_tc (sc_s_aload_n dX2_needsLoadAhead_26 rfl) (
  sc_tc (sc_s_getN dX2_needsLoadAhead_27 (by decide) (by decide) kN_2_185) (
  sc_tc (sc_s_invN dX2_needsLoadAhead_30 mo_2 (by decide) rfl kG_2_155 kI_2 kL_2) (
  sc_tc (sc_s_if_ne dX2_needsLoadAhead_33 (by decide)) (
  sc_tc (sc_s_aload_n dX2_needsLoadAhead_36 rfl) (
  sc_tc (sc_s_invN dX2_needsLoadAhead_37 mo_4 (by decide) rfl kG_2_188 kI_4 kL_4) (
  sc_tc (sc_s_if_eq dX2_needsLoadAhead_40 (by decide)) (
  sc_tc (sc_s_aload_n dX2_needsLoadAhead_43 rfl) (
  sc_tc (sc_s_aload_n dX2_needsLoadAhead_44 rfl) (
  sc_tc (sc_s_getN dX2_needsLoadAhead_45 (by decide) (by decide) kN_2_191) (
  sc_tc (sc_s_invN dX2_needsLoadAhead_48 mo_2 (by decide) rfl kG_2_155 kI_2 kL_2) (
  sc_tc (sc_s_if_eq dX2_needsLoadAhead_51 (by decide)) (
  sc_tc (sc_s_iconst dX2_needsLoadAhead_54 (by decide)) (
  sc_tc (sc_s_goto dX2_needsLoadAhead_55 (by decide)) (
  sc_tc (sc_s_iconst dX2_needsLoadAhead_58 (by decide)) (
  sc_tc (sc_s_retZ dX2_needsLoadAhead_59 rfl) ( trivial)))))))))))))))))))))))))))))))
set_option maxRecDepth 100000 in
set_option maxHeartbeats 4000000 in
theorem ts_X2_handedOn : sc_TS yX2_handedOn cX2_handedOn 3 (some .int) st_X2_handedOn :=
  sc_tc (sc_s_aload_n dX2_handedOn_0 rfl) (
  sc_tc (sc_s_get dX2_handedOn_1 (by decide) (by decide) kF_2_34) (
  sc_tc (sc_s_iconst dX2_handedOn_4 (by decide)) (
  sc_tc (sc_s_fload dX2_handedOn_5) (
  sc_tc (sc_s_astore_n dX2_handedOn_6 rfl (by decide)) (
  sc_tc (sc_s_aload_n dX2_handedOn_7 rfl) (
  sc_tc (sc_s_iload_n dX2_handedOn_8 rfl) (
  sc_tc (sc_s_invN dX2_handedOn_9 mo_2 (by decide) rfl kG_2_155 kI_2 kL_2) (
  sc_tc (sc_s_if_eq dX2_handedOn_12 (by decide)) (
  sc_tc (sc_s_aload_n dX2_handedOn_15 rfl) (
  sc_tc (sc_s_getN dX2_handedOn_16 (by decide) (by decide) kN_2_158) (
  sc_tc (sc_s_goto dX2_handedOn_19 (by decide)) (
  sc_tc (sc_s_aload_n dX2_handedOn_22 rfl) (
  sc_tc (sc_s_get dX2_handedOn_23 (by decide) (by decide) kF_2_26) (
  sc_tc (sc_s_iload_n dX2_handedOn_26 rfl) (
  sc_tc (sc_s_iaload dX2_handedOn_27) (
  sc_tc (sc_s_retI dX2_handedOn_28 rfl) ( trivial)))))))))))))))))
set_option maxRecDepth 100000 in
set_option maxHeartbeats 4000000 in
theorem ts_X2_isWord : sc_TS yX2_isWord cX2_isWord 1 (some .boolean) st_X2_isWord :=
  sc_tc (sc_s_iload_n dX2_isWord_0 rfl) (
  sc_tc (sc_s_if_lt dX2_isWord_1 (by decide)) (
  sc_tc (sc_s_iload_n dX2_isWord_4 rfl) (
  sc_tc (sc_s_bipush dX2_isWord_5 (by decide)) (
  sc_tc (sc_s_icmp_ge dX2_isWord_7 (by decide)) (
  sc_tc (sc_s_iconst dX2_isWord_10 (by decide)) (
  sc_tc (sc_s_goto dX2_isWord_11 (by decide)) (
  sc_tc (sc_s_iconst dX2_isWord_14 (by decide)) (
  sc_tc (sc_s_retZ dX2_isWord_15 rfl) ( trivial)))))))))
set_option maxRecDepth 100000 in
set_option maxHeartbeats 4000000 in
theorem ts_X2_faultOf : sc_TS yX2_faultOf cX2_faultOf 3 (some .int) st_X2_faultOf :=
  sc_tc (sc_s_aload_n dX2_faultOf_0 rfl) (
  sc_tc (sc_s_getN dX2_faultOf_1 (by decide) (by decide) kN_2_212) (
  sc_tc (sc_s_bipush dX2_faultOf_4 (by decide)) (
  sc_tc (sc_s_icmp_ne dX2_faultOf_6 (by decide)) (
  sc_tc (sc_s_iconst dX2_faultOf_9 (by decide)) (
  sc_tc (sc_s_retI dX2_faultOf_10 rfl) (
  sc_tc (sc_s_aload_n dX2_faultOf_11 rfl) (
  sc_tc (sc_s_invN dX2_faultOf_12 mo_6 (by decide) rfl kG_2_206 kI_6 kL_6) (
  sc_tc (sc_s_if_eq dX2_faultOf_15 (by decide)) (
  sc_tc (sc_s_iload_n dX2_faultOf_18 rfl) (
  sc_tc (sc_s_aload_n dX2_faultOf_19 rfl) (
  sc_tc (sc_s_getN dX2_faultOf_20 (by decide) (by decide) kN_2_209) (
  sc_tc (sc_s_iadd dX2_faultOf_23) (
  sc_tc (sc_s_ins dX2_faultOf_24 mo_24 kM_2_234 kS_24) (
  sc_tc (sc_s_if_ne dX2_faultOf_27 (by decide)) (
  sc_tc (sc_s_iconst dX2_faultOf_30 (by decide)) (
  sc_tc (sc_s_retI dX2_faultOf_31 rfl) (
  sc_tc (sc_s_aload_n dX2_faultOf_32 rfl) (
  sc_tc (sc_s_getN dX2_faultOf_33 (by decide) (by decide) kN_2_212) (
  sc_tc (sc_s_bipush dX2_faultOf_36 (by decide)) (
  sc_tc (sc_s_icmp_ne dX2_faultOf_38 (by decide)) (
  sc_tc (sc_s_iload_n dX2_faultOf_41 rfl) (
  sc_tc (sc_s_if_ne dX2_faultOf_42 (by decide)) (
  sc_tc (sc_s_iconst dX2_faultOf_45 (by decide)) (
  sc_tc (sc_s_goto dX2_faultOf_46 (by decide)) (
  sc_tc (sc_s_iconst dX2_faultOf_49 (by decide)) (
  sc_tc (sc_s_retI dX2_faultOf_50 rfl) ( trivial)))))))))))))))))))))))))))
set_option maxRecDepth 100000 in
set_option maxHeartbeats 4000000 in
theorem ts_X2_valueOf : sc_TS yX2_valueOf cX2_valueOf 3 (some .int) st_X2_valueOf :=
  sc_tc (sc_s_aload_n dX2_valueOf_0 rfl) (
  sc_tc (sc_s_getN dX2_valueOf_1 (by decide) (by decide) kN_2_149) (
  sc_tc (sc_s_getN dX2_valueOf_4 (by decide) (by decide) kN_2_212) (
  sc_tc (sc_s_sw dX2_valueOf_7 (by decide) (by decide) (by decide +kernel)) (
  sc_tc (sc_s_iload_n dX2_valueOf_88 rfl) (
  sc_tc (sc_s_iload_n dX2_valueOf_89 rfl) (
  sc_tc (sc_s_iadd dX2_valueOf_90) (
  sc_tc (sc_s_retI dX2_valueOf_91 rfl) (
  sc_tc (sc_s_iload_n dX2_valueOf_92 rfl) (
  sc_tc (sc_s_iload_n dX2_valueOf_93 rfl) (
  sc_tc (sc_s_isub dX2_valueOf_94) (
  sc_tc (sc_s_retI dX2_valueOf_95 rfl) (
  sc_tc (sc_s_iload_n dX2_valueOf_96 rfl) (
  sc_tc (sc_s_iload_n dX2_valueOf_97 rfl) (
  sc_tc (sc_s_iand dX2_valueOf_98) (
  sc_tc (sc_s_retI dX2_valueOf_99 rfl) (
  sc_tc (sc_s_iload_n dX2_valueOf_100 rfl) (
  sc_tc (sc_s_iload_n dX2_valueOf_101 rfl) (
  sc_tc (sc_s_ior dX2_valueOf_102) (
  sc_tc (sc_s_retI dX2_valueOf_103 rfl) (
  sc_tc (sc_s_iload_n dX2_valueOf_104 rfl) (
  sc_tc (sc_s_iload_n dX2_valueOf_105 rfl) (
  sc_tc (sc_s_ixor dX2_valueOf_106) (
  sc_tc (sc_s_retI dX2_valueOf_107 rfl) (
  sc_tc (sc_s_iload_n dX2_valueOf_108 rfl) (
  sc_tc (sc_s_iload_n dX2_valueOf_109 rfl) (
  sc_tc (sc_s_bipush dX2_valueOf_110 (by decide)) (
  sc_tc (sc_s_iand dX2_valueOf_112) (
  sc_tc (sc_s_ishl dX2_valueOf_113) (
  sc_tc (sc_s_retI dX2_valueOf_114 rfl) (
  sc_tc (sc_s_iload_n dX2_valueOf_115 rfl) (
  sc_tc (sc_s_iload_n dX2_valueOf_116 rfl) (
  sc_tc (sc_s_icmp_ge dX2_valueOf_117 (by decide)) (
  sc_tc (sc_s_iconst dX2_valueOf_120 (by decide)) (
  sc_tc (sc_s_goto dX2_valueOf_121 (by decide)) (
  sc_tc (sc_s_iconst dX2_valueOf_124 (by decide)) (
  sc_tc (sc_s_retI dX2_valueOf_125 rfl) (
  sc_tc (sc_s_iload_n dX2_valueOf_126 rfl) (
  sc_tc (sc_s_iload_n dX2_valueOf_127 rfl) (
  sc_tc (sc_s_imul dX2_valueOf_128) (
  sc_tc (sc_s_retI dX2_valueOf_129 rfl) (
  sc_tc (sc_s_iload_n dX2_valueOf_130 rfl) (
  sc_tc (sc_s_if_ne dX2_valueOf_131 (by decide)) (
  sc_tc (sc_s_iconst dX2_valueOf_134 (by decide)) (
  sc_tc (sc_s_goto dX2_valueOf_135 (by decide)) (
  sc_tc (sc_s_iload_n dX2_valueOf_138 rfl) (
  sc_tc (sc_s_iload_n dX2_valueOf_139 rfl) (
  sc_tc (sc_s_idiv dX2_valueOf_140) (
  sc_tc (sc_s_retI dX2_valueOf_141 rfl) (
  sc_tc (sc_s_iload_n dX2_valueOf_142 rfl) (
  sc_tc (sc_s_aload_n dX2_valueOf_143 rfl) (
  sc_tc (sc_s_getN dX2_valueOf_144 (by decide) (by decide) kN_2_149) (
  sc_tc (sc_s_getN dX2_valueOf_147 (by decide) (by decide) kN_2_209) (
  sc_tc (sc_s_iadd dX2_valueOf_150) (
  sc_tc (sc_s_retI dX2_valueOf_151 rfl) (
  sc_tc (sc_s_aload_n dX2_valueOf_152 rfl) (
  sc_tc (sc_s_getN dX2_valueOf_153 (by decide) (by decide) kN_2_149) (
  sc_tc (sc_s_getN dX2_valueOf_156 (by decide) (by decide) kN_2_209) (
  sc_tc (sc_s_retI dX2_valueOf_159 rfl) (
  sc_tc (sc_s_iload_n dX2_valueOf_160 rfl) (
  sc_tc (sc_s_retI dX2_valueOf_161 rfl) (
  sc_tc (sc_s_aload_n dX2_valueOf_162 rfl) (
  sc_tc (sc_s_getN dX2_valueOf_163 (by decide) (by decide) kN_2_83) (
  sc_tc (sc_s_iconst dX2_valueOf_166 (by decide)) (
  sc_tc (sc_s_iadd dX2_valueOf_167) (
  sc_tc (sc_s_retI dX2_valueOf_168 rfl) (
  sc_tc (sc_s_aload_n dX2_valueOf_169 rfl) (
  sc_tc (sc_s_getN dX2_valueOf_170 (by decide) (by decide) kN_2_83) (
  sc_tc (sc_s_iconst dX2_valueOf_173 (by decide)) (
  sc_tc (sc_s_iadd dX2_valueOf_174) (
  sc_tc (sc_s_retI dX2_valueOf_175 rfl) (
  sc_tc (sc_s_iconst dX2_valueOf_176 (by decide)) (
  sc_tc (sc_s_retI dX2_valueOf_177 rfl) ( trivial)))))))))))))))))))))))))))))))))))))))))))))))))))))))))))))))))))))))))
set_option maxRecDepth 100000 in
set_option maxHeartbeats 4000000 in
theorem ts_X2_goesElsewhere : sc_TS yX2_goesElsewhere cX2_goesElsewhere 3 (some .boolean) st_X2_goesElsewhere :=
  sc_tc (sc_s_iload_n dX2_goesElsewhere_0 rfl) (
  sc_tc (sc_s_sw dX2_goesElsewhere_1 (by decide) (by decide) (by decide +kernel)) (
  sc_tc (sc_s_iload_n dX2_goesElsewhere_32 rfl) (
  sc_tc (sc_s_iload_n dX2_goesElsewhere_33 rfl) (
  sc_tc (sc_s_icmp_ne dX2_goesElsewhere_34 (by decide)) (
  sc_tc (sc_s_iconst dX2_goesElsewhere_37 (by decide)) (
  sc_tc (sc_s_goto dX2_goesElsewhere_38 (by decide)) (
  sc_tc (sc_s_iconst dX2_goesElsewhere_41 (by decide)) (
  sc_tc (sc_s_retZ dX2_goesElsewhere_42 rfl) (
  sc_tc (sc_s_iload_n dX2_goesElsewhere_43 rfl) (
  sc_tc (sc_s_iload_n dX2_goesElsewhere_44 rfl) (
  sc_tc (sc_s_icmp_eq dX2_goesElsewhere_45 (by decide)) (
  sc_tc (sc_s_iconst dX2_goesElsewhere_48 (by decide)) (
  sc_tc (sc_s_goto dX2_goesElsewhere_49 (by decide)) (
  sc_tc (sc_s_iconst dX2_goesElsewhere_52 (by decide)) (
  sc_tc (sc_s_retZ dX2_goesElsewhere_53 rfl) (
  sc_tc (sc_s_iconst dX2_goesElsewhere_54 (by decide)) (
  sc_tc (sc_s_retZ dX2_goesElsewhere_55 rfl) (
  sc_tc (sc_s_iconst dX2_goesElsewhere_56 (by decide)) (
  sc_tc (sc_s_retZ dX2_goesElsewhere_57 rfl) (
  sc_tc (sc_s_iconst dX2_goesElsewhere_58 (by decide)) (
  sc_tc (sc_s_retZ dX2_goesElsewhere_59 rfl) ( trivial))))))))))))))))))))))
set_option maxRecDepth 100000 in
set_option maxHeartbeats 4000000 in
theorem ts_J9_floorMod_7cf53 : sc_TS yJ9_floorMod_7cf53 cJ9_floorMod_7cf53 3 (some .int) st_J9_floorMod_7cf53 :=
  sc_tc (sc_s_iload_n dJ9_floorMod_7cf53_0 rfl) (
  sc_tc (sc_s_iload_n dJ9_floorMod_7cf53_1 rfl) (
  sc_tc (sc_s_irem dJ9_floorMod_7cf53_2) (
  sc_tc (sc_s_istore_n dJ9_floorMod_7cf53_3 rfl (by decide)) (
  sc_tc (sc_s_iload_n dJ9_floorMod_7cf53_4 rfl) (
  sc_tc (sc_s_iload_n dJ9_floorMod_7cf53_5 rfl) (
  sc_tc (sc_s_ixor dJ9_floorMod_7cf53_6) (
  sc_tc (sc_s_if_ge dJ9_floorMod_7cf53_7 (by decide)) (
  sc_tc (sc_s_iload_n dJ9_floorMod_7cf53_10 rfl) (
  sc_tc (sc_s_if_eq dJ9_floorMod_7cf53_11 (by decide)) (
  sc_tc (sc_s_iload_n dJ9_floorMod_7cf53_14 rfl) (
  sc_tc (sc_s_iload_n dJ9_floorMod_7cf53_15 rfl) (
  sc_tc (sc_s_iadd dJ9_floorMod_7cf53_16) (
  sc_tc (sc_s_retI dJ9_floorMod_7cf53_17 rfl) (
  sc_tc (sc_s_iload_n dJ9_floorMod_7cf53_18 rfl) (
  sc_tc (sc_s_retI dJ9_floorMod_7cf53_19 rfl) ( trivial))))))))))))))))
set_option maxRecDepth 100000 in
set_option maxHeartbeats 4000000 in
theorem ts_X2_learn : sc_TS yX2_learn cX2_learn 5 none st_X2_learn :=
  sc_tc (sc_s_iload_n dX2_learn_0 rfl) (
  sc_tc (sc_s_bipush dX2_learn_1 (by decide)) (
  sc_tc (sc_s_ins dX2_learn_3 mo_28 kM_2_161 kS_28) (
  sc_tc (sc_s_istore_n dX2_learn_6 rfl (by decide)) (
  sc_tc (sc_s_aload_n dX2_learn_7 rfl) (
  sc_tc (sc_s_get dX2_learn_8 (by decide) (by decide) kF_2_29) (
  sc_tc (sc_s_iload_n dX2_learn_11 rfl) (
  sc_tc (sc_s_iaload dX2_learn_12) (
  sc_tc (sc_s_iload_n dX2_learn_13 rfl) (
  sc_tc (sc_s_if_eq dX2_learn_14 (by decide)) (
  sc_tc (sc_s_iconst dX2_learn_17 (by decide)) (
  sc_tc (sc_s_goto dX2_learn_18 (by decide)) (
  sc_tc (sc_s_iconst dX2_learn_21 (by decide)) (
  sc_tc (sc_s_iadd dX2_learn_22) (
  sc_tc (sc_s_istore dX2_learn_23 (by decide)) (
  sc_tc (sc_s_aload_n dX2_learn_25 rfl) (
  sc_tc (sc_s_get dX2_learn_26 (by decide) (by decide) kF_2_29) (
  sc_tc (sc_s_iload_n dX2_learn_29 rfl) (
  sc_tc (sc_s_iconst dX2_learn_30 (by decide)) (
  sc_tc (sc_s_iconst dX2_learn_31 (by decide)) (
  sc_tc (sc_s_iload dX2_learn_32) (
  sc_tc (sc_s_ins dX2_learn_34 mo_71 kM_2_86 kS_71) (
  sc_tc (sc_s_ins dX2_learn_37 mo_70 kM_2_237 kS_70) (
  sc_tc (sc_s_iastore dX2_learn_40) (
  sc_tc (sc_s_retV dX2_learn_41 rfl) ( trivial)))))))))))))))))))))))))
set_option maxRecDepth 100000 in
set_option maxHeartbeats 4000000 in
theorem ts_X2_target : sc_TS yX2_target cX2_target 3 (some .int) st_X2_target :=
  sc_tc (sc_s_aload_n dX2_target_0 rfl) (
  sc_tc (sc_s_getN dX2_target_1 (by decide) (by decide) kN_2_149) (
  sc_tc (sc_s_getN dX2_target_4 (by decide) (by decide) kN_2_212) (
  sc_tc (sc_s_bipush dX2_target_7 (by decide)) (
  sc_tc (sc_s_icmp_ne dX2_target_9 (by decide)) (
  sc_tc (sc_s_iload_n dX2_target_12 rfl) (
  sc_tc (sc_s_goto dX2_target_13 (by decide)) (
  sc_tc (sc_s_aload_n dX2_target_16 rfl) (
  sc_tc (sc_s_getN dX2_target_17 (by decide) (by decide) kN_2_83) (
  sc_tc (sc_s_istore_n dX2_target_20 rfl (by decide)) (
  sc_tc (sc_s_iload_n dX2_target_21 rfl) (
  sc_tc (sc_s_aload_n dX2_target_22 rfl) (
  sc_tc (sc_s_getN dX2_target_23 (by decide) (by decide) kN_2_149) (
  sc_tc (sc_s_getN dX2_target_26 (by decide) (by decide) kN_2_209) (
  sc_tc (sc_s_iadd dX2_target_29) (
  sc_tc (sc_s_retI dX2_target_30 rfl) ( trivial))))))))))))))))
set_option maxRecDepth 100000 in
set_option maxHeartbeats 4000000 in
theorem ts_X2_holdAgainstGuess : sc_TS yX2_holdAgainstGuess cX2_holdAgainstGuess 3 none st_X2_holdAgainstGuess :=
  sc_tc (sc_s_iload_n dX2_holdAgainstGuess_0 rfl) (
  sc_tc (sc_s_aload_n dX2_holdAgainstGuess_1 rfl) (
  sc_tc (sc_s_getN dX2_holdAgainstGuess_2 (by decide) (by decide) kN_2_240) (
  sc_tc (sc_s_icmp_eq dX2_holdAgainstGuess_5 (by decide)) (
  sc_tc (sc_s_aload_n dX2_holdAgainstGuess_8 rfl) (
  sc_tc (sc_s_dup dX2_holdAgainstGuess_9) (
  sc_tc (sc_s_get dX2_holdAgainstGuess_10 (by decide) (by decide) kF_2_98) (
  sc_tc (sc_s_iconst dX2_holdAgainstGuess_13 (by decide)) (
  sc_tc (sc_s_iadd dX2_holdAgainstGuess_14) (
  sc_tc (sc_s_putI dX2_holdAgainstGuess_15 (Or.inr (Or.inl rfl)) (by decide) rfl rfl (by decide +kernel) kF_2_98) (
  sc_tc (sc_s_aload_n dX2_holdAgainstGuess_18 rfl) (
  sc_tc (sc_s_iconst dX2_holdAgainstGuess_19 (by decide)) (
  sc_tc (sc_s_inv dX2_holdAgainstGuess_20 mo_14 (by decide) rfl kM_2_59 kI_14 kL_14) (
  sc_tc (sc_s_aload_n dX2_holdAgainstGuess_23 rfl) (
  sc_tc (sc_s_iload_n dX2_holdAgainstGuess_24 rfl) (
  sc_tc (sc_s_putI dX2_holdAgainstGuess_25 (Or.inr (Or.inl rfl)) (by decide) rfl rfl (by decide +kernel) kF_2_63) (
  sc_tc (sc_s_retV dX2_holdAgainstGuess_28 rfl) ( trivial)))))))))))))))))
set_option maxRecDepth 100000 in
set_option maxHeartbeats 4000000 in
theorem ts_X2_finishWork : sc_TS yX2_finishWork cX2_finishWork 5 none st_X2_finishWork :=
  sc_tc (sc_s_aload_n dX2_finishWork_0 rfl) (
  sc_tc (sc_s_aload_n dX2_finishWork_1 rfl) (
  sc_tc (sc_s_getN dX2_finishWork_2 (by decide) (by decide) kN_2_149) (
  sc_tc (sc_s_getN dX2_finishWork_5 (by decide) (by decide) kN_2_185) (
  sc_tc (sc_s_inv dX2_finishWork_8 mo_23 (by decide) rfl kM_2_194 kI_23 kL_23) (
  sc_tc (sc_s_istore_n dX2_finishWork_11 rfl (by decide)) (
  sc_tc (sc_s_aload_n dX2_finishWork_12 rfl) (
  sc_tc (sc_s_aload_n dX2_finishWork_13 rfl) (
  sc_tc (sc_s_getN dX2_finishWork_14 (by decide) (by decide) kN_2_149) (
  sc_tc (sc_s_getN dX2_finishWork_17 (by decide) (by decide) kN_2_191) (
  sc_tc (sc_s_inv dX2_finishWork_20 mo_23 (by decide) rfl kM_2_194 kI_23 kL_23) (
  sc_tc (sc_s_istore_n dX2_finishWork_23 rfl (by decide)) (
  sc_tc (sc_s_aload_n dX2_finishWork_24 rfl) (
  sc_tc (sc_s_getN dX2_finishWork_25 (by decide) (by decide) kN_2_136) (
  sc_tc (sc_s_if_ne dX2_finishWork_28 (by decide)) (
  sc_tc (sc_s_aload_n dX2_finishWork_31 rfl) (
  sc_tc (sc_s_aload_n dX2_finishWork_32 rfl) (
  sc_tc (sc_s_getN dX2_finishWork_33 (by decide) (by decide) kN_2_149) (
  sc_tc (sc_s_iload_n dX2_finishWork_36 rfl) (
  sc_tc (sc_s_iload_n dX2_finishWork_37 rfl) (
  sc_tc (sc_s_ins dX2_finishWork_38 mo_25 kM_2_198 kS_25) (
  sc_tc (sc_s_putIN dX2_finishWork_41 (Or.inl rfl) (by decide) rfl rfl (by decide +kernel) kN_2_136) (
  sc_tc (sc_s_aload_n dX2_finishWork_44 rfl) (
  sc_tc (sc_s_getN dX2_finishWork_45 (by decide) (by decide) kN_2_136) (
  sc_tc (sc_s_if_eq dX2_finishWork_48 (by decide)) (
  sc_tc (sc_s_retV dX2_finishWork_51 rfl) (
  sc_tc (sc_s_aload_n dX2_finishWork_52 rfl) (
  sc_tc (sc_s_aload_n dX2_finishWork_53 rfl) (
  sc_tc (sc_s_iload_n dX2_finishWork_54 rfl) (
  sc_tc (sc_s_iload_n dX2_finishWork_55 rfl) (
  sc_tc (sc_s_ins dX2_finishWork_56 mo_26 kM_2_202 kS_26) (
  sc_tc (sc_s_putIN dX2_finishWork_59 (Or.inl rfl) (by decide) rfl rfl (by decide +kernel) kN_2_158) (
  sc_tc (sc_s_aload_n dX2_finishWork_62 rfl) (
  sc_tc (sc_s_aload_n dX2_finishWork_63 rfl) (
  sc_tc (sc_s_getN dX2_finishWork_64 (by decide) (by decide) kN_2_149) (
  sc_tc (sc_s_invN dX2_finishWork_67 mo_6 (by decide) rfl kG_2_206 kI_6 kL_6) (
  sc_tc (sc_s_if_eq dX2_finishWork_70 (by decide)) (
  sc_tc (sc_s_iload_n dX2_finishWork_73 rfl) (
  sc_tc (sc_s_aload_n dX2_finishWork_74 rfl) (
  sc_tc (sc_s_getN dX2_finishWork_75 (by decide) (by decide) kN_2_149) (
  sc_tc (sc_s_getN dX2_finishWork_78 (by decide) (by decide) kN_2_209) (
  sc_tc (sc_s_iadd dX2_finishWork_81) (
  sc_tc (sc_s_goto dX2_finishWork_82 (by decide)) (
  sc_tc (sc_s_iconst dX2_finishWork_85 (by decide)) (
  sc_tc (sc_s_putIN dX2_finishWork_86 (Or.inl rfl) (by decide) rfl rfl (by decide +kernel) kN_2_164) (
  sc_tc (sc_s_aload_n dX2_finishWork_89 rfl) (
  sc_tc (sc_s_getN dX2_finishWork_90 (by decide) (by decide) kN_2_149) (
  sc_tc (sc_s_getN dX2_finishWork_93 (by decide) (by decide) kN_2_212) (
  sc_tc (sc_s_iload_n dX2_finishWork_96 rfl) (
  sc_tc (sc_s_iload_n dX2_finishWork_97 rfl) (
  sc_tc (sc_s_ins dX2_finishWork_98 mo_27 kM_2_215 kS_27) (
  sc_tc (sc_s_istore dX2_finishWork_101 (by decide)) (
  sc_tc (sc_s_aload_n dX2_finishWork_103 rfl) (
  sc_tc (sc_s_getN dX2_finishWork_104 (by decide) (by decide) kN_2_149) (
  sc_tc (sc_s_invN dX2_finishWork_107 mo_3 (by decide) rfl kG_2_219 kI_3 kL_3) (
  sc_tc (sc_s_if_eq dX2_finishWork_110 (by decide)) (
  sc_tc (sc_s_aload_n dX2_finishWork_113 rfl) (
  sc_tc (sc_s_aload_n dX2_finishWork_114 rfl) (
  sc_tc (sc_s_getN dX2_finishWork_115 (by decide) (by decide) kN_2_83) (
  sc_tc (sc_s_iload dX2_finishWork_118) (
  sc_tc (sc_s_inv dX2_finishWork_120 mo_29 (by decide) rfl kM_2_222 kI_29 kL_29) (
  sc_tc (sc_s_aload_n dX2_finishWork_123 rfl) (
  sc_tc (sc_s_aload_n dX2_finishWork_124 rfl) (
  sc_tc (sc_s_iload dX2_finishWork_125) (
  sc_tc (sc_s_if_eq dX2_finishWork_127 (by decide)) (
  sc_tc (sc_s_aload_n dX2_finishWork_130 rfl) (
  sc_tc (sc_s_iload_n dX2_finishWork_131 rfl) (
  sc_tc (sc_s_ins dX2_finishWork_132 mo_30 kM_2_226 kS_30) (
  sc_tc (sc_s_goto dX2_finishWork_135 (by decide)) (
  sc_tc (sc_s_aload_n dX2_finishWork_138 rfl) (
  sc_tc (sc_s_getN dX2_finishWork_139 (by decide) (by decide) kN_2_83) (
  sc_tc (sc_s_iconst dX2_finishWork_142 (by decide)) (
  sc_tc (sc_s_iadd dX2_finishWork_143) (
  sc_tc (sc_s_inv dX2_finishWork_144 mo_31 (by decide) rfl kM_2_230 kI_31 kL_31) (
  sc_tc (sc_s_retV dX2_finishWork_147 rfl) ( trivial)))))))))))))))))))))))))))))))))))))))))))))))))))))))))))))))))))))))))))
set_option maxRecDepth 100000 in
set_option maxHeartbeats 4000000 in
theorem ts_X2_workInReached : sc_TS yX2_workInReached cX2_workInReached 2 none st_X2_workInReached :=
  sc_tc (sc_s_aload_n dX2_workInReached_0 rfl) (
  sc_tc (sc_s_getN dX2_workInReached_1 (by decide) (by decide) kN_2_80) (
  sc_tc (sc_s_if_ne dX2_workInReached_4 (by decide)) (
  sc_tc (sc_s_retV dX2_workInReached_7 rfl) (
  sc_tc (sc_s_aload_n dX2_workInReached_8 rfl) (
  sc_tc (sc_s_aload_n dX2_workInReached_9 rfl) (
  sc_tc (sc_s_getN dX2_workInReached_10 (by decide) (by decide) kN_2_149) (
  sc_tc (sc_s_inv dX2_workInReached_13 mo_22 (by decide) rfl kM_2_167 kI_22 kL_22) (
  sc_tc (sc_s_if_eq dX2_workInReached_16 (by decide)) (
  sc_tc (sc_s_aload_n dX2_workInReached_19 rfl) (
  sc_tc (sc_s_dup dX2_workInReached_20) (
  sc_tc (sc_s_get dX2_workInReached_21 (by decide) (by decide) kF_2_95) (
  sc_tc (sc_s_iconst dX2_workInReached_24 (by decide)) (
  sc_tc (sc_s_iadd dX2_workInReached_25) (
  sc_tc (sc_s_putI dX2_workInReached_26 (Or.inr (Or.inl rfl)) (by decide) rfl rfl (by decide +kernel) kF_2_95) (
  sc_tc (sc_s_retV dX2_workInReached_29 rfl) (
  sc_tc (sc_s_aload_n dX2_workInReached_30 rfl) (
  sc_tc (sc_s_dup dX2_workInReached_31) (
  sc_tc (sc_s_getN dX2_workInReached_32 (by decide) (by decide) kN_2_171) (
  sc_tc (sc_s_iconst dX2_workInReached_35 (by decide)) (
  sc_tc (sc_s_iadd dX2_workInReached_36) (
  sc_tc (sc_s_putIN dX2_workInReached_37 (Or.inl rfl) (by decide) rfl rfl (by decide +kernel) kN_2_171) (
  sc_tc (sc_s_aload_n dX2_workInReached_40 rfl) (
  sc_tc (sc_s_getN dX2_workInReached_41 (by decide) (by decide) kN_2_171) (
  sc_tc (sc_s_aload_n dX2_workInReached_44 rfl) (
  sc_tc (sc_s_getN dX2_workInReached_45 (by decide) (by decide) kN_2_149) (
  sc_tc (sc_s_invN dX2_workInReached_48 mo_7 (by decide) rfl kG_2_174 kI_7 kL_7) (
  sc_tc (sc_s_icmp_ge dX2_workInReached_51 (by decide)) (
  sc_tc (sc_s_aload_n dX2_workInReached_54 rfl) (
  sc_tc (sc_s_dup dX2_workInReached_55) (
  sc_tc (sc_s_get dX2_workInReached_56 (by decide) (by decide) kF_2_95) (
  sc_tc (sc_s_iconst dX2_workInReached_59 (by decide)) (
  sc_tc (sc_s_iadd dX2_workInReached_60) (
  sc_tc (sc_s_putI dX2_workInReached_61 (Or.inr (Or.inl rfl)) (by decide) rfl rfl (by decide +kernel) kF_2_95) (
  sc_tc (sc_s_retV dX2_workInReached_64 rfl) (
  sc_tc (sc_s_aload_n dX2_workInReached_65 rfl) (
  sc_tc (sc_s_aload_n dX2_workInReached_66 rfl) (
  sc_tc (sc_s_inv dX2_workInReached_67 mo_32 (by decide) rfl kM_2_178 kI_32 kL_32) (
  sc_tc (sc_s_aload_n dX2_workInReached_70 rfl) (
  sc_tc (sc_s_iconst dX2_workInReached_71 (by decide)) (
  sc_tc (sc_s_inv dX2_workInReached_72 mo_20 (by decide) rfl kM_2_130 kI_20 kL_20) (
  sc_tc (sc_s_retV dX2_workInReached_75 rfl) ( trivial))))))))))))))))))))))))))))))))))))))))))
set_option maxRecDepth 100000 in
set_option maxHeartbeats 4000000 in
theorem ts_X2_guessNext : sc_TS yX2_guessNext cX2_guessNext 4 (some .int) st_X2_guessNext :=
  sc_tc (sc_s_aload_n dX2_guessNext_0 rfl) (
  sc_tc (sc_s_getN dX2_guessNext_1 (by decide) (by decide) kN_2_212) (
  sc_tc (sc_s_bipush dX2_guessNext_4 (by decide)) (
  sc_tc (sc_s_icmp_eq dX2_guessNext_6 (by decide)) (
  sc_tc (sc_s_aload_n dX2_guessNext_9 rfl) (
  sc_tc (sc_s_invN dX2_guessNext_10 mo_3 (by decide) rfl kG_2_219 kI_3 kL_3) (
  sc_tc (sc_s_if_eq dX2_guessNext_13 (by decide)) (
  sc_tc (sc_s_aload_n dX2_guessNext_16 rfl) (
  sc_tc (sc_s_get dX2_guessNext_17 (by decide) (by decide) kF_2_29) (
  sc_tc (sc_s_iload_n dX2_guessNext_20 rfl) (
  sc_tc (sc_s_bipush dX2_guessNext_21 (by decide)) (
  sc_tc (sc_s_ins dX2_guessNext_23 mo_28 kM_2_161 kS_28) (
  sc_tc (sc_s_iaload dX2_guessNext_26) (
  sc_tc (sc_s_iconst dX2_guessNext_27 (by decide)) (
  sc_tc (sc_s_icmp_lt dX2_guessNext_28 (by decide)) (
  sc_tc (sc_s_iconst dX2_guessNext_31 (by decide)) (
  sc_tc (sc_s_goto dX2_guessNext_32 (by decide)) (
  sc_tc (sc_s_iconst dX2_guessNext_35 (by decide)) (
  sc_tc (sc_s_istore_n dX2_guessNext_36 rfl (by decide)) (
  sc_tc (sc_s_iload_n dX2_guessNext_37 rfl) (
  sc_tc (sc_s_if_eq dX2_guessNext_38 (by decide)) (
  sc_tc (sc_s_iload_n dX2_guessNext_41 rfl) (
  sc_tc (sc_s_aload_n dX2_guessNext_42 rfl) (
  sc_tc (sc_s_getN dX2_guessNext_43 (by decide) (by decide) kN_2_209) (
  sc_tc (sc_s_iadd dX2_guessNext_46) (
  sc_tc (sc_s_goto dX2_guessNext_47 (by decide)) (
  sc_tc (sc_s_iload_n dX2_guessNext_50 rfl) (
  sc_tc (sc_s_iconst dX2_guessNext_51 (by decide)) (
  sc_tc (sc_s_iadd dX2_guessNext_52) (
  sc_tc (sc_s_retI dX2_guessNext_53 rfl) ( trivial))))))))))))))))))))))))))))))
set_option maxRecDepth 100000 in
set_option maxHeartbeats 4000000 in
theorem ts_X2_fetchIfFree : sc_TS yX2_fetchIfFree cX2_fetchIfFree 3 none st_X2_fetchIfFree :=
  sc_tc (sc_s_aload_n dX2_fetchIfFree_0 rfl) (
  sc_tc (sc_s_getN dX2_fetchIfFree_1 (by decide) (by decide) kN_2_80) (
  sc_tc (sc_s_if_eq dX2_fetchIfFree_4 (by decide)) (
  sc_tc (sc_s_retV dX2_fetchIfFree_7 rfl) (
  sc_tc (sc_s_aload_n dX2_fetchIfFree_8 rfl) (
  sc_tc (sc_s_get dX2_fetchIfFree_9 (by decide) (by decide) kF_2_63) (
  sc_tc (sc_s_if_lt dX2_fetchIfFree_12 (by decide)) (
  sc_tc (sc_s_aload_n dX2_fetchIfFree_15 rfl) (
  sc_tc (sc_s_get dX2_fetchIfFree_16 (by decide) (by decide) kF_2_63) (
  sc_tc (sc_s_bipush dX2_fetchIfFree_19 (by decide)) (
  sc_tc (sc_s_icmp_ge dX2_fetchIfFree_21 (by decide)) (
  sc_tc (sc_s_iconst dX2_fetchIfFree_24 (by decide)) (
  sc_tc (sc_s_goto dX2_fetchIfFree_25 (by decide)) (
  sc_tc (sc_s_iconst dX2_fetchIfFree_28 (by decide)) (
  sc_tc (sc_s_istore_n dX2_fetchIfFree_29 rfl (by decide)) (
  sc_tc (sc_s_aload_n dX2_fetchIfFree_30 rfl) (
  sc_tc (sc_s_iconst dX2_fetchIfFree_31 (by decide)) (
  sc_tc (sc_s_putZN dX2_fetchIfFree_32 (Or.inl rfl) (by decide) rfl rfl (by decide +kernel) kN_2_80) (
  sc_tc (sc_s_aload_n dX2_fetchIfFree_35 rfl) (
  sc_tc (sc_s_aload_n dX2_fetchIfFree_36 rfl) (
  sc_tc (sc_s_get dX2_fetchIfFree_37 (by decide) (by decide) kF_2_63) (
  sc_tc (sc_s_putIN dX2_fetchIfFree_40 (Or.inl rfl) (by decide) rfl rfl (by decide +kernel) kN_2_83) (
  sc_tc (sc_s_aload_n dX2_fetchIfFree_43 rfl) (
  sc_tc (sc_s_iload_n dX2_fetchIfFree_44 rfl) (
  sc_tc (sc_s_if_eq dX2_fetchIfFree_45 (by decide)) (
  sc_tc (sc_s_aload_n dX2_fetchIfFree_48 rfl) (
  sc_tc (sc_s_get dX2_fetchIfFree_49 (by decide) (by decide) kF_2_18) (
  sc_tc (sc_s_aload_n dX2_fetchIfFree_52 rfl) (
  sc_tc (sc_s_get dX2_fetchIfFree_53 (by decide) (by decide) kF_2_63) (
  sc_tc (sc_s_nload dX2_fetchIfFree_56) (
  sc_tc (sc_s_goto dX2_fetchIfFree_57 (by decide)) (
  sc_tc (sc_s_aload_n dX2_fetchIfFree_60 rfl) (
  sc_tc (sc_s_get dX2_fetchIfFree_61 (by decide) (by decide) kF_2_14) (
  sc_tc (sc_s_putN dX2_fetchIfFree_64 kN_2_149) (
  sc_tc (sc_s_aload_n dX2_fetchIfFree_67 rfl) (
  sc_tc (sc_s_iload_n dX2_fetchIfFree_68 rfl) (
  sc_tc (sc_s_if_eq dX2_fetchIfFree_69 (by decide)) (
  sc_tc (sc_s_iconst dX2_fetchIfFree_72 (by decide)) (
  sc_tc (sc_s_goto dX2_fetchIfFree_73 (by decide)) (
  sc_tc (sc_s_iconst dX2_fetchIfFree_76 (by decide)) (
  sc_tc (sc_s_putIN dX2_fetchIfFree_77 (Or.inl rfl) (by decide) rfl rfl (by decide +kernel) kN_2_136) (
  sc_tc (sc_s_aload_n dX2_fetchIfFree_80 rfl) (
  sc_tc (sc_s_iconst dX2_fetchIfFree_81 (by decide)) (
  sc_tc (sc_s_putIN dX2_fetchIfFree_82 (Or.inl rfl) (by decide) rfl rfl (by decide +kernel) kN_2_171) (
  sc_tc (sc_s_aload_n dX2_fetchIfFree_85 rfl) (
  sc_tc (sc_s_iconst dX2_fetchIfFree_86 (by decide)) (
  sc_tc (sc_s_putIN dX2_fetchIfFree_87 (Or.inl rfl) (by decide) rfl rfl (by decide +kernel) kN_2_164) (
  sc_tc (sc_s_aload_n dX2_fetchIfFree_90 rfl) (
  sc_tc (sc_s_iconst dX2_fetchIfFree_91 (by decide)) (
  sc_tc (sc_s_putIN dX2_fetchIfFree_92 (Or.inl rfl) (by decide) rfl rfl (by decide +kernel) kN_2_158) (
  sc_tc (sc_s_aload_n dX2_fetchIfFree_95 rfl) (
  sc_tc (sc_s_aload_n dX2_fetchIfFree_96 rfl) (
  sc_tc (sc_s_aload_n dX2_fetchIfFree_97 rfl) (
  sc_tc (sc_s_getN dX2_fetchIfFree_98 (by decide) (by decide) kN_2_149) (
  sc_tc (sc_s_aload_n dX2_fetchIfFree_101 rfl) (
  sc_tc (sc_s_get dX2_fetchIfFree_102 (by decide) (by decide) kF_2_63) (
  sc_tc (sc_s_inv dX2_fetchIfFree_105 mo_34 (by decide) rfl kM_2_243 kI_34 kL_34) (
  sc_tc (sc_s_putIN dX2_fetchIfFree_108 (Or.inl rfl) (by decide) rfl rfl (by decide +kernel) kN_2_240) (
  sc_tc (sc_s_aload_n dX2_fetchIfFree_111 rfl) (
  sc_tc (sc_s_aload_n dX2_fetchIfFree_112 rfl) (
  sc_tc (sc_s_getN dX2_fetchIfFree_113 (by decide) (by decide) kN_2_240) (
  sc_tc (sc_s_putI dX2_fetchIfFree_116 (Or.inr (Or.inl rfl)) (by decide) rfl rfl (by decide +kernel) kF_2_63) (
  sc_tc (sc_s_retV dX2_fetchIfFree_119 rfl) ( trivial)))))))))))))))))))))))))))))))))))))))))))))))))))))))))))))))
set_option maxRecDepth 100000 in
set_option maxHeartbeats 4000000 in
theorem ts_X2_runCycle : sc_TS yX2_runCycle cX2_runCycle 1 none st_X2_runCycle :=
  sc_tc (sc_s_aload_n dX2_runCycle_0 rfl) (
  sc_tc (sc_s_dup dX2_runCycle_1) (
  sc_tc (sc_s_get dX2_runCycle_2 (by decide) (by decide) kF_2_92) (
  sc_tc (sc_s_iconst dX2_runCycle_5 (by decide)) (
  sc_tc (sc_s_iadd dX2_runCycle_6) (
  sc_tc (sc_s_putI dX2_runCycle_7 (Or.inr (Or.inl rfl)) (by decide) rfl rfl (by decide +kernel) kF_2_92) (
  sc_tc (sc_s_aload_n dX2_runCycle_10 rfl) (
  sc_tc (sc_s_aload_n dX2_runCycle_11 rfl) (
  sc_tc (sc_s_get dX2_runCycle_12 (by decide) (by decide) kF_2_34) (
  sc_tc (sc_s_iconst dX2_runCycle_15 (by decide)) (
  sc_tc (sc_s_fload dX2_runCycle_16) (
  sc_tc (sc_s_inv dX2_runCycle_17 mo_19 (by decide) rfl kM_2_119 kI_19 kL_19) (
  sc_tc (sc_s_if_eq dX2_runCycle_20 (by decide)) (
  sc_tc (sc_s_retV dX2_runCycle_23 rfl) (
  sc_tc (sc_s_aload_n dX2_runCycle_24 rfl) (
  sc_tc (sc_s_aload_n dX2_runCycle_25 rfl) (
  sc_tc (sc_s_get dX2_runCycle_26 (by decide) (by decide) kF_2_34) (
  sc_tc (sc_s_iconst dX2_runCycle_29 (by decide)) (
  sc_tc (sc_s_fload dX2_runCycle_30) (
  sc_tc (sc_s_inv dX2_runCycle_31 mo_21 (by decide) rfl kM_2_123 kI_21 kL_21) (
  sc_tc (sc_s_aload_n dX2_runCycle_34 rfl) (
  sc_tc (sc_s_aload_n dX2_runCycle_35 rfl) (
  sc_tc (sc_s_get dX2_runCycle_36 (by decide) (by decide) kF_2_34) (
  sc_tc (sc_s_iconst dX2_runCycle_39 (by decide)) (
  sc_tc (sc_s_fload dX2_runCycle_40) (
  sc_tc (sc_s_inv dX2_runCycle_41 mo_33 (by decide) rfl kM_2_127 kI_33 kL_33) (
  sc_tc (sc_s_aload_n dX2_runCycle_44 rfl) (
  sc_tc (sc_s_iconst dX2_runCycle_45 (by decide)) (
  sc_tc (sc_s_inv dX2_runCycle_46 mo_20 (by decide) rfl kM_2_130 kI_20 kL_20) (
  sc_tc (sc_s_aload_n dX2_runCycle_49 rfl) (
  sc_tc (sc_s_iconst dX2_runCycle_50 (by decide)) (
  sc_tc (sc_s_inv dX2_runCycle_51 mo_20 (by decide) rfl kM_2_130 kI_20 kL_20) (
  sc_tc (sc_s_aload_n dX2_runCycle_54 rfl) (
  sc_tc (sc_s_aload_n dX2_runCycle_55 rfl) (
  sc_tc (sc_s_get dX2_runCycle_56 (by decide) (by decide) kF_2_34) (
  sc_tc (sc_s_iconst dX2_runCycle_59 (by decide)) (
  sc_tc (sc_s_fload dX2_runCycle_60) (
  sc_tc (sc_s_inv dX2_runCycle_61 mo_35 (by decide) rfl kM_2_133 kI_35 kL_35) (
  sc_tc (sc_s_retV dX2_runCycle_64 rfl) ( trivial)))))))))))))))))))))))))))))))))))))))
set_option maxRecDepth 100000 in
set_option maxHeartbeats 4000000 in
theorem ts_X2_cycles : sc_TS yX2_cycles cX2_cycles 4 (some .int) st_X2_cycles :=
  sc_tc (sc_s_iload_n dX2_cycles_0 rfl) (
  sc_tc (sc_s_iconst dX2_cycles_1 (by decide)) (
  sc_tc (sc_s_sipush dX2_cycles_2 (by decide)) (
  sc_tc (sc_s_ins dX2_cycles_5 mo_9 kM_2_48 kS_9) (
  sc_tc (sc_s_aload_n dX2_cycles_8 rfl) (
  sc_tc (sc_s_get dX2_cycles_9 (by decide) (by decide) kF_2_74) (
  sc_tc (sc_s_istore_n dX2_cycles_12 rfl (by decide)) (
  sc_tc (sc_s_iconst dX2_cycles_13 (by decide)) (
  sc_tc (sc_s_istore_n dX2_cycles_14 rfl (by decide)) (
  sc_tc (sc_s_iload_n dX2_cycles_15 rfl) (
  sc_tc (sc_s_iload_n dX2_cycles_16 rfl) (
  sc_tc (sc_s_icmp_ge dX2_cycles_17 (by decide)) (
  sc_tc (sc_s_aload_n dX2_cycles_20 rfl) (
  sc_tc (sc_s_get dX2_cycles_21 (by decide) (by decide) kF_2_67) (
  sc_tc (sc_s_if_ne dX2_cycles_24 (by decide)) (
  sc_tc (sc_s_aload_n dX2_cycles_27 rfl) (
  sc_tc (sc_s_inv dX2_cycles_28 mo_36 (by decide) rfl kM_2_77 kI_36 kL_36) (
  sc_tc (sc_s_iinc dX2_cycles_31 (by decide) (by decide)) (
  sc_tc (sc_s_goto dX2_cycles_34 (by decide)) (
  sc_tc (sc_s_aload_n dX2_cycles_37 rfl) (
  sc_tc (sc_s_get dX2_cycles_38 (by decide) (by decide) kF_2_74) (
  sc_tc (sc_s_iload_n dX2_cycles_41 rfl) (
  sc_tc (sc_s_isub dX2_cycles_42) (
  sc_tc (sc_s_retI dX2_cycles_43 rfl) ( trivial))))))))))))))))))))))))
set_option maxRecDepth 100000 in
set_option maxHeartbeats 4000000 in
theorem ts_X2_stage : sc_TS yX2_stage cX2_stage 3 (some .int) st_X2_stage :=
  sc_tc (sc_s_iload_n dX2_stage_0 rfl) (
  sc_tc (sc_s_iconst dX2_stage_1 (by decide)) (
  sc_tc (sc_s_ins dX2_stage_2 mo_8 kM_2_44 kS_8) (
  sc_tc (sc_s_aload_n dX2_stage_5 rfl) (
  sc_tc (sc_s_get dX2_stage_6 (by decide) (by decide) kF_2_34) (
  sc_tc (sc_s_iload_n dX2_stage_9 rfl) (
  sc_tc (sc_s_fload dX2_stage_10) (
  sc_tc (sc_s_astore_n dX2_stage_11 rfl (by decide)) (
  sc_tc (sc_s_aload_n dX2_stage_12 rfl) (
  sc_tc (sc_s_getN dX2_stage_13 (by decide) (by decide) kN_2_80) (
  sc_tc (sc_s_if_eq dX2_stage_16 (by decide)) (
  sc_tc (sc_s_aload_n dX2_stage_19 rfl) (
  sc_tc (sc_s_getN dX2_stage_20 (by decide) (by decide) kN_2_83) (
  sc_tc (sc_s_goto dX2_stage_23 (by decide)) (
  sc_tc (sc_s_iconst dX2_stage_26 (by decide)) (
  sc_tc (sc_s_retI dX2_stage_27 rfl) ( trivial))))))))))))))))
set_option maxRecDepth 100000 in
set_option maxHeartbeats 4000000 in
theorem ts_X2_counter : sc_TS yX2_counter cX2_counter 2 (some .int) st_X2_counter :=
  sc_tc (sc_s_iload_n dX2_counter_0 rfl) (
  sc_tc (sc_s_bipush dX2_counter_1 (by decide)) (
  sc_tc (sc_s_ins dX2_counter_3 mo_8 kM_2_44 kS_8) (
  sc_tc (sc_s_aload_n dX2_counter_6 rfl) (
  sc_tc (sc_s_get dX2_counter_7 (by decide) (by decide) kF_2_29) (
  sc_tc (sc_s_iload_n dX2_counter_10 rfl) (
  sc_tc (sc_s_iaload dX2_counter_11) (
  sc_tc (sc_s_retI dX2_counter_12 rfl) ( trivial))))))))
set_option maxRecDepth 100000 in
set_option maxHeartbeats 4000000 in
theorem ts_X2_retired : sc_TS yX2_retired cX2_retired 2 (some .int) st_X2_retired :=
  sc_tc (sc_s_iload_n dX2_retired_0 rfl) (
  sc_tc (sc_s_aload_n dX2_retired_1 rfl) (
  sc_tc (sc_s_get dX2_retired_2 (by decide) (by decide) kF_2_74) (
  sc_tc (sc_s_bipush dX2_retired_5 (by decide)) (
  sc_tc (sc_s_ins dX2_retired_7 mo_71 kM_2_86 kS_71) (
  sc_tc (sc_s_ins dX2_retired_10 mo_8 kM_2_44 kS_8) (
  sc_tc (sc_s_aload_n dX2_retired_13 rfl) (
  sc_tc (sc_s_get dX2_retired_14 (by decide) (by decide) kF_2_41) (
  sc_tc (sc_s_aload_n dX2_retired_17 rfl) (
  sc_tc (sc_s_get dX2_retired_18 (by decide) (by decide) kF_2_74) (
  sc_tc (sc_s_iconst dX2_retired_21 (by decide)) (
  sc_tc (sc_s_isub dX2_retired_22) (
  sc_tc (sc_s_iload_n dX2_retired_23 rfl) (
  sc_tc (sc_s_isub dX2_retired_24) (
  sc_tc (sc_s_bipush dX2_retired_25 (by decide)) (
  sc_tc (sc_s_irem dX2_retired_27) (
  sc_tc (sc_s_iaload dX2_retired_28) (
  sc_tc (sc_s_retI dX2_retired_29 rfl) ( trivial))))))))))))))))))
set_option maxRecDepth 100000 in
set_option maxHeartbeats 4000000 in
theorem ts_X2_count : sc_TS yX2_count cX2_count 2 (some .int) st_X2_count :=
  sc_tc (sc_s_iload_n dX2_count_0 rfl) (
  sc_tc (sc_s_sw dX2_count_1 (by decide) (by decide) (by decide +kernel)) (
  sc_tc (sc_s_aload_n dX2_count_52 rfl) (
  sc_tc (sc_s_get dX2_count_53 (by decide) (by decide) kF_2_92) (
  sc_tc (sc_s_retI dX2_count_56 rfl) (
  sc_tc (sc_s_aload_n dX2_count_57 rfl) (
  sc_tc (sc_s_get dX2_count_58 (by decide) (by decide) kF_2_74) (
  sc_tc (sc_s_retI dX2_count_61 rfl) (
  sc_tc (sc_s_aload_n dX2_count_62 rfl) (
  sc_tc (sc_s_get dX2_count_63 (by decide) (by decide) kF_2_95) (
  sc_tc (sc_s_retI dX2_count_66 rfl) (
  sc_tc (sc_s_aload_n dX2_count_67 rfl) (
  sc_tc (sc_s_get dX2_count_68 (by decide) (by decide) kF_2_98) (
  sc_tc (sc_s_retI dX2_count_71 rfl) (
  sc_tc (sc_s_aload_n dX2_count_72 rfl) (
  sc_tc (sc_s_get dX2_count_73 (by decide) (by decide) kF_2_101) (
  sc_tc (sc_s_retI dX2_count_76 rfl) (
  sc_tc (sc_s_aload_n dX2_count_77 rfl) (
  sc_tc (sc_s_get dX2_count_78 (by decide) (by decide) kF_2_63) (
  sc_tc (sc_s_retI dX2_count_81 rfl) (
  sc_tc (sc_s_aload_n dX2_count_82 rfl) (
  sc_tc (sc_s_get dX2_count_83 (by decide) (by decide) kF_2_104) (
  sc_tc (sc_s_retI dX2_count_86 rfl) (
  sc_tc (sc_s_aload_n dX2_count_87 rfl) (
  sc_tc (sc_s_get dX2_count_88 (by decide) (by decide) kF_2_107) (
  sc_tc (sc_s_retI dX2_count_91 rfl) (
  sc_tc (sc_s_aload_n dX2_count_92 rfl) (
  sc_tc (sc_s_get dX2_count_93 (by decide) (by decide) kF_2_67) (
  sc_tc (sc_s_if_eq dX2_count_96 (by decide)) (
  sc_tc (sc_s_iconst dX2_count_99 (by decide)) (
  sc_tc (sc_s_goto dX2_count_100 (by decide)) (
  sc_tc (sc_s_iconst dX2_count_103 (by decide)) (
  sc_tc (sc_s_retI dX2_count_104 rfl) (
  sc_tc (sc_s_bad) (
  sc_tc (sc_s_dup dX2_count_108) (
  sc_tc (sc_s_bad) (
  sc_tc (sc_s_bad) (
  sc_tc (sc_s_bad) ( trivial))))))))))))))))))))))))))))))))))))))
set_option maxRecDepth 100000 in
set_option maxHeartbeats 4000000 in
theorem ts_X3_thrown : sc_TS yX3_thrown cX3_thrown 1 (some .int) st_X3_thrown :=
  sc_tc (sc_s_aload_n dX3_thrown_0 rfl) (
  sc_tc (sc_s_get dX3_thrown_1 (by decide) (by decide) kF_3_71) (
  sc_tc (sc_s_retI dX3_thrown_4 rfl) ( trivial)))
set_option maxRecDepth 100000 in
set_option maxHeartbeats 4000000 in
theorem ts_X3_out : sc_TS yX3_out cX3_out 4 (some .boolean) st_X3_out :=
  sc_tc (sc_s_aload_n dX3_out_0 rfl) (
  sc_tc (sc_s_iload_n dX3_out_1 rfl) (
  sc_tc (sc_s_iload_n dX3_out_2 rfl) (
  sc_tc (sc_s_icmp_lt dX3_out_3 (by decide)) (
  sc_tc (sc_s_iload_n dX3_out_6 rfl) (
  sc_tc (sc_s_iload_n dX3_out_7 rfl) (
  sc_tc (sc_s_icmp_gt dX3_out_8 (by decide)) (
  sc_tc (sc_s_iconst dX3_out_11 (by decide)) (
  sc_tc (sc_s_goto dX3_out_12 (by decide)) (
  sc_tc (sc_s_iconst dX3_out_15 (by decide)) (
  sc_tc (sc_s_putI dX3_out_16 (Or.inr (Or.inr rfl)) (by decide) rfl rfl (by decide +kernel) kF_3_71) (
  sc_tc (sc_s_aload_n dX3_out_19 rfl) (
  sc_tc (sc_s_get dX3_out_20 (by decide) (by decide) kF_3_71) (
  sc_tc (sc_s_if_le dX3_out_23 (by decide)) (
  sc_tc (sc_s_iconst dX3_out_26 (by decide)) (
  sc_tc (sc_s_goto dX3_out_27 (by decide)) (
  sc_tc (sc_s_iconst dX3_out_30 (by decide)) (
  sc_tc (sc_s_retZ dX3_out_31 rfl) ( trivial))))))))))))))))))
set_option maxRecDepth 100000 in
set_option maxHeartbeats 4000000 in
theorem ts_X3_in : sc_TS yX3_in cX3_in 3 (some .boolean) st_X3_in :=
  sc_tc (sc_s_iload_n dX3_in_0 rfl) (
  sc_tc (sc_s_iload_n dX3_in_1 rfl) (
  sc_tc (sc_s_icmp_lt dX3_in_2 (by decide)) (
  sc_tc (sc_s_iload_n dX3_in_5 rfl) (
  sc_tc (sc_s_iload_n dX3_in_6 rfl) (
  sc_tc (sc_s_icmp_gt dX3_in_7 (by decide)) (
  sc_tc (sc_s_iconst dX3_in_10 (by decide)) (
  sc_tc (sc_s_goto dX3_in_11 (by decide)) (
  sc_tc (sc_s_iconst dX3_in_14 (by decide)) (
  sc_tc (sc_s_retZ dX3_in_15 rfl) ( trivial))))))))))
set_option maxRecDepth 100000 in
set_option maxHeartbeats 4000000 in
theorem ts_X3_put : sc_TS yX3_put cX3_put 7 none st_X3_put :=
  sc_tc (sc_s_aload_n dX3_put_0 rfl) (
  sc_tc (sc_s_iload_n dX3_put_1 rfl) (
  sc_tc (sc_s_iconst dX3_put_2 (by decide)) (
  sc_tc (sc_s_bipush dX3_put_3 (by decide)) (
  sc_tc (sc_s_inv dX3_put_5 mo_43 (by decide) rfl kM_3_75 kI_43 kL_43) (
  sc_tc (sc_s_if_eq dX3_put_8 (by decide)) (
  sc_tc (sc_s_retV dX3_put_11 rfl) (
  sc_tc (sc_s_iload_n dX3_put_12 rfl) (
  sc_tc (sc_s_iconst dX3_put_13 (by decide)) (
  sc_tc (sc_s_bipush dX3_put_14 (by decide)) (
  sc_tc (sc_s_ins dX3_put_16 mo_44 kM_3_79 kS_44) (
  sc_tc (sc_s_if_eq dX3_put_19 (by decide)) (
  sc_tc (sc_s_iload_n dX3_put_22 rfl) (
  sc_tc (sc_s_iconst dX3_put_23 (by decide)) (
  sc_tc (sc_s_bipush dX3_put_24 (by decide)) (
  sc_tc (sc_s_ins dX3_put_26 mo_44 kM_3_79 kS_44) (
  sc_tc (sc_s_if_eq dX3_put_29 (by decide)) (
  sc_tc (sc_s_iload dX3_put_32) (
  sc_tc (sc_s_iconst dX3_put_34 (by decide)) (
  sc_tc (sc_s_bipush dX3_put_35 (by decide)) (
  sc_tc (sc_s_ins dX3_put_37 mo_44 kM_3_79 kS_44) (
  sc_tc (sc_s_if_eq dX3_put_40 (by decide)) (
  sc_tc (sc_s_iload dX3_put_43) (
  sc_tc (sc_s_iconst dX3_put_45 (by decide)) (
  sc_tc (sc_s_bipush dX3_put_46 (by decide)) (
  sc_tc (sc_s_ins dX3_put_48 mo_44 kM_3_79 kS_44) (
  sc_tc (sc_s_if_eq dX3_put_51 (by decide)) (
  sc_tc (sc_s_iload dX3_put_54) (
  sc_tc (sc_s_bipush dX3_put_56 (by decide)) (
  sc_tc (sc_s_bipush dX3_put_58 (by decide)) (
  sc_tc (sc_s_ins dX3_put_60 mo_44 kM_3_79 kS_44) (
  sc_tc (sc_s_if_ne dX3_put_63 (by decide)) (
  sc_tc (sc_s_aload_n dX3_put_66 rfl) (
  sc_tc (sc_s_iconst dX3_put_67 (by decide)) (
  sc_tc (sc_s_putI dX3_put_68 (Or.inr (Or.inr rfl)) (by decide) rfl rfl (by decide +kernel) kF_3_71) (
  sc_tc (sc_s_retV dX3_put_71 rfl) (
  sc_tc (sc_s_aload_n dX3_put_72 rfl) (
  sc_tc (sc_s_get dX3_put_73 (by decide) (by decide) kF_3_7) (
  sc_tc (sc_s_iload_n dX3_put_76 rfl) (
  sc_tc (sc_s_iload_n dX3_put_77 rfl) (
  sc_tc (sc_s_iastore dX3_put_78) (
  sc_tc (sc_s_aload_n dX3_put_79 rfl) (
  sc_tc (sc_s_get dX3_put_80 (by decide) (by decide) kF_3_13) (
  sc_tc (sc_s_iload_n dX3_put_83 rfl) (
  sc_tc (sc_s_iload_n dX3_put_84 rfl) (
  sc_tc (sc_s_iastore dX3_put_85) (
  sc_tc (sc_s_aload_n dX3_put_86 rfl) (
  sc_tc (sc_s_get dX3_put_87 (by decide) (by decide) kF_3_16) (
  sc_tc (sc_s_iload_n dX3_put_90 rfl) (
  sc_tc (sc_s_iload dX3_put_91) (
  sc_tc (sc_s_iastore dX3_put_93) (
  sc_tc (sc_s_aload_n dX3_put_94 rfl) (
  sc_tc (sc_s_get dX3_put_95 (by decide) (by decide) kF_3_19) (
  sc_tc (sc_s_iload_n dX3_put_98 rfl) (
  sc_tc (sc_s_iload dX3_put_99) (
  sc_tc (sc_s_iastore dX3_put_101) (
  sc_tc (sc_s_aload_n dX3_put_102 rfl) (
  sc_tc (sc_s_get dX3_put_103 (by decide) (by decide) kF_3_22) (
  sc_tc (sc_s_iload_n dX3_put_106 rfl) (
  sc_tc (sc_s_iload dX3_put_107) (
  sc_tc (sc_s_iastore dX3_put_109) (
  sc_tc (sc_s_retV dX3_put_110 rfl) ( trivial))))))))))))))))))))))))))))))))))))))))))))))))))))))))))))))
set_option maxRecDepth 100000 in
set_option maxHeartbeats 4000000 in
theorem ts_X3_poke : sc_TS yX3_poke cX3_poke 4 (some .int) st_X3_poke :=
  sc_tc (sc_s_aload_n dX3_poke_0 rfl) (
  sc_tc (sc_s_iload_n dX3_poke_1 rfl) (
  sc_tc (sc_s_iconst dX3_poke_2 (by decide)) (
  sc_tc (sc_s_bipush dX3_poke_3 (by decide)) (
  sc_tc (sc_s_inv dX3_poke_5 mo_43 (by decide) rfl kM_3_75 kI_43 kL_43) (
  sc_tc (sc_s_if_eq dX3_poke_8 (by decide)) (
  sc_tc (sc_s_iconst dX3_poke_11 (by decide)) (
  sc_tc (sc_s_retI dX3_poke_12 rfl) (
  sc_tc (sc_s_aload_n dX3_poke_13 rfl) (
  sc_tc (sc_s_get dX3_poke_14 (by decide) (by decide) kF_3_25) (
  sc_tc (sc_s_iload_n dX3_poke_17 rfl) (
  sc_tc (sc_s_iaload dX3_poke_18) (
  sc_tc (sc_s_istore_n dX3_poke_19 rfl (by decide)) (
  sc_tc (sc_s_aload_n dX3_poke_20 rfl) (
  sc_tc (sc_s_get dX3_poke_21 (by decide) (by decide) kF_3_25) (
  sc_tc (sc_s_iload_n dX3_poke_24 rfl) (
  sc_tc (sc_s_iload_n dX3_poke_25 rfl) (
  sc_tc (sc_s_iastore dX3_poke_26) (
  sc_tc (sc_s_iload_n dX3_poke_27 rfl) (
  sc_tc (sc_s_retI dX3_poke_28 rfl) ( trivial))))))))))))))))))))
set_option maxRecDepth 100000 in
set_option maxHeartbeats 4000000 in
theorem ts_X3_peek : sc_TS yX3_peek cX3_peek 2 (some .int) st_X3_peek :=
  sc_tc (sc_s_aload_n dX3_peek_0 rfl) (
  sc_tc (sc_s_iload_n dX3_peek_1 rfl) (
  sc_tc (sc_s_iconst dX3_peek_2 (by decide)) (
  sc_tc (sc_s_bipush dX3_peek_3 (by decide)) (
  sc_tc (sc_s_inv dX3_peek_5 mo_43 (by decide) rfl kM_3_75 kI_43 kL_43) (
  sc_tc (sc_s_if_eq dX3_peek_8 (by decide)) (
  sc_tc (sc_s_iconst dX3_peek_11 (by decide)) (
  sc_tc (sc_s_goto dX3_peek_12 (by decide)) (
  sc_tc (sc_s_aload_n dX3_peek_15 rfl) (
  sc_tc (sc_s_get dX3_peek_16 (by decide) (by decide) kF_3_25) (
  sc_tc (sc_s_iload_n dX3_peek_19 rfl) (
  sc_tc (sc_s_iaload dX3_peek_20) (
  sc_tc (sc_s_retI dX3_peek_21 rfl) ( trivial)))))))))))))
set_option maxRecDepth 100000 in
set_option maxHeartbeats 4000000 in
theorem ts_X3_set : sc_TS yX3_set cX3_set 4 (some .int) st_X3_set :=
  sc_tc (sc_s_aload_n dX3_set_0 rfl) (
  sc_tc (sc_s_iload_n dX3_set_1 rfl) (
  sc_tc (sc_s_iconst dX3_set_2 (by decide)) (
  sc_tc (sc_s_bipush dX3_set_3 (by decide)) (
  sc_tc (sc_s_inv dX3_set_5 mo_43 (by decide) rfl kM_3_75 kI_43 kL_43) (
  sc_tc (sc_s_if_eq dX3_set_8 (by decide)) (
  sc_tc (sc_s_iconst dX3_set_11 (by decide)) (
  sc_tc (sc_s_retI dX3_set_12 rfl) (
  sc_tc (sc_s_aload_n dX3_set_13 rfl) (
  sc_tc (sc_s_get dX3_set_14 (by decide) (by decide) kF_3_28) (
  sc_tc (sc_s_iload_n dX3_set_17 rfl) (
  sc_tc (sc_s_iaload dX3_set_18) (
  sc_tc (sc_s_istore_n dX3_set_19 rfl (by decide)) (
  sc_tc (sc_s_aload_n dX3_set_20 rfl) (
  sc_tc (sc_s_get dX3_set_21 (by decide) (by decide) kF_3_28) (
  sc_tc (sc_s_iload_n dX3_set_24 rfl) (
  sc_tc (sc_s_iload_n dX3_set_25 rfl) (
  sc_tc (sc_s_iastore dX3_set_26) (
  sc_tc (sc_s_iload_n dX3_set_27 rfl) (
  sc_tc (sc_s_retI dX3_set_28 rfl) ( trivial))))))))))))))))))))
set_option maxRecDepth 100000 in
set_option maxHeartbeats 4000000 in
theorem ts_X3_register : sc_TS yX3_register cX3_register 2 (some .int) st_X3_register :=
  sc_tc (sc_s_aload_n dX3_register_0 rfl) (
  sc_tc (sc_s_iload_n dX3_register_1 rfl) (
  sc_tc (sc_s_iconst dX3_register_2 (by decide)) (
  sc_tc (sc_s_bipush dX3_register_3 (by decide)) (
  sc_tc (sc_s_inv dX3_register_5 mo_43 (by decide) rfl kM_3_75 kI_43 kL_43) (
  sc_tc (sc_s_if_eq dX3_register_8 (by decide)) (
  sc_tc (sc_s_iconst dX3_register_11 (by decide)) (
  sc_tc (sc_s_goto dX3_register_12 (by decide)) (
  sc_tc (sc_s_aload_n dX3_register_15 rfl) (
  sc_tc (sc_s_get dX3_register_16 (by decide) (by decide) kF_3_28) (
  sc_tc (sc_s_iload_n dX3_register_19 rfl) (
  sc_tc (sc_s_iaload dX3_register_20) (
  sc_tc (sc_s_retI dX3_register_21 rfl) ( trivial)))))))))))))
set_option maxRecDepth 100000 in
set_option maxHeartbeats 4000000 in
theorem ts_X3_empty : sc_TS yX3_empty cX3_empty 2 none st_X3_empty :=
  sc_tc (sc_s_iconst dX3_empty_0 (by decide)) (
  sc_tc (sc_s_istore_n dX3_empty_1 rfl (by decide)) (
  sc_tc (sc_s_iload_n dX3_empty_2 rfl) (
  sc_tc (sc_s_iconst dX3_empty_3 (by decide)) (
  sc_tc (sc_s_icmp_ge dX3_empty_4 (by decide)) (
  sc_tc (sc_s_aload_n dX3_empty_7 rfl) (
  sc_tc (sc_s_get dX3_empty_8 (by decide) (by decide) kF_3_34) (
  sc_tc (sc_s_iload_n dX3_empty_11 rfl) (
  sc_tc (sc_s_iconst dX3_empty_12 (by decide)) (
  sc_tc (sc_s_bastore dX3_empty_13) (
  sc_tc (sc_s_iinc dX3_empty_14 (by decide) (by decide)) (
  sc_tc (sc_s_goto dX3_empty_17 (by decide)) (
  sc_tc (sc_s_retV dX3_empty_20 rfl) ( trivial)))))))))))))
set_option maxRecDepth 100000 in
set_option maxHeartbeats 4000000 in
theorem ts_X3_start : sc_TS yX3_start cX3_start 2 none st_X3_start :=
  sc_tc (sc_s_aload_n dX3_start_0 rfl) (
  sc_tc (sc_s_iload_n dX3_start_1 rfl) (
  sc_tc (sc_s_iconst dX3_start_2 (by decide)) (
  sc_tc (sc_s_bipush dX3_start_3 (by decide)) (
  sc_tc (sc_s_inv dX3_start_5 mo_43 (by decide) rfl kM_3_75 kI_43 kL_43) (
  sc_tc (sc_s_if_eq dX3_start_8 (by decide)) (
  sc_tc (sc_s_retV dX3_start_11 rfl) (
  sc_tc (sc_s_aload_n dX3_start_12 rfl) (
  sc_tc (sc_s_inv dX3_start_13 mo_50 (by decide) rfl kM_3_82 kI_50 kL_50) (
  sc_tc (sc_s_aload_n dX3_start_16 rfl) (
  sc_tc (sc_s_iload_n dX3_start_17 rfl) (
  sc_tc (sc_s_putI dX3_start_18 (Or.inr (Or.inr rfl)) (by decide) rfl rfl (by decide +kernel) kF_3_85) (
  sc_tc (sc_s_aload_n dX3_start_21 rfl) (
  sc_tc (sc_s_iconst dX3_start_22 (by decide)) (
  sc_tc (sc_s_putZ dX3_start_23 (Or.inr (Or.inr rfl)) (by decide) rfl rfl (by decide +kernel) kF_3_88) (
  sc_tc (sc_s_retV dX3_start_26 rfl) ( trivial))))))))))))))))
set_option maxRecDepth 100000 in
set_option maxHeartbeats 4000000 in
theorem ts_X3_handler : sc_TS yX3_handler cX3_handler 3 (some .int) st_X3_handler :=
  sc_tc (sc_s_aload_n dX3_handler_0 rfl) (
  sc_tc (sc_s_iload_n dX3_handler_1 rfl) (
  sc_tc (sc_s_iconst dX3_handler_2 (by decide)) (
  sc_tc (sc_s_bipush dX3_handler_3 (by decide)) (
  sc_tc (sc_s_inv dX3_handler_5 mo_43 (by decide) rfl kM_3_75 kI_43 kL_43) (
  sc_tc (sc_s_if_eq dX3_handler_8 (by decide)) (
  sc_tc (sc_s_iconst dX3_handler_11 (by decide)) (
  sc_tc (sc_s_retI dX3_handler_12 rfl) (
  sc_tc (sc_s_aload_n dX3_handler_13 rfl) (
  sc_tc (sc_s_get dX3_handler_14 (by decide) (by decide) kF_3_92) (
  sc_tc (sc_s_istore_n dX3_handler_17 rfl (by decide)) (
  sc_tc (sc_s_aload_n dX3_handler_18 rfl) (
  sc_tc (sc_s_iload_n dX3_handler_19 rfl) (
  sc_tc (sc_s_putI dX3_handler_20 (Or.inr (Or.inr rfl)) (by decide) rfl rfl (by decide +kernel) kF_3_92) (
  sc_tc (sc_s_iload_n dX3_handler_23 rfl) (
  sc_tc (sc_s_retI dX3_handler_24 rfl) ( trivial))))))))))))))))
set_option maxRecDepth 100000 in
set_option maxHeartbeats 4000000 in
theorem ts_X3_writes : sc_TS yX3_writes cX3_writes 1 (some .boolean) st_X3_writes :=
  sc_tc (sc_s_iload_n dX3_writes_0 rfl) (
  sc_tc (sc_s_iconst dX3_writes_1 (by decide)) (
  sc_tc (sc_s_bipush dX3_writes_2 (by decide)) (
  sc_tc (sc_s_ins dX3_writes_4 mo_44 kM_3_79 kS_44) (
  sc_tc (sc_s_if_ne dX3_writes_7 (by decide)) (
  sc_tc (sc_s_iload_n dX3_writes_10 rfl) (
  sc_tc (sc_s_bipush dX3_writes_11 (by decide)) (
  sc_tc (sc_s_icmp_eq dX3_writes_13 (by decide)) (
  sc_tc (sc_s_iload_n dX3_writes_16 rfl) (
  sc_tc (sc_s_bipush dX3_writes_17 (by decide)) (
  sc_tc (sc_s_icmp_ne dX3_writes_19 (by decide)) (
  sc_tc (sc_s_iconst dX3_writes_22 (by decide)) (
  sc_tc (sc_s_goto dX3_writes_23 (by decide)) (
  sc_tc (sc_s_iconst dX3_writes_26 (by decide)) (
  sc_tc (sc_s_retZ dX3_writes_27 rfl) ( trivial)))))))))))))))
set_option maxRecDepth 100000 in
set_option maxHeartbeats 4000000 in
theorem ts_X3_usesFirst : sc_TS yX3_usesFirst cX3_usesFirst 1 (some .boolean) st_X3_usesFirst :=
  sc_tc (sc_s_iload_n dX3_usesFirst_0 rfl) (
  sc_tc (sc_s_iconst dX3_usesFirst_1 (by decide)) (
  sc_tc (sc_s_bipush dX3_usesFirst_2 (by decide)) (
  sc_tc (sc_s_ins dX3_usesFirst_4 mo_44 kM_3_79 kS_44) (
  sc_tc (sc_s_if_ne dX3_usesFirst_7 (by decide)) (
  sc_tc (sc_s_iload_n dX3_usesFirst_10 rfl) (
  sc_tc (sc_s_bipush dX3_usesFirst_11 (by decide)) (
  sc_tc (sc_s_bipush dX3_usesFirst_13 (by decide)) (
  sc_tc (sc_s_ins dX3_usesFirst_15 mo_44 kM_3_79 kS_44) (
  sc_tc (sc_s_if_ne dX3_usesFirst_18 (by decide)) (
  sc_tc (sc_s_iload_n dX3_usesFirst_21 rfl) (
  sc_tc (sc_s_bipush dX3_usesFirst_22 (by decide)) (
  sc_tc (sc_s_icmp_ne dX3_usesFirst_24 (by decide)) (
  sc_tc (sc_s_iconst dX3_usesFirst_27 (by decide)) (
  sc_tc (sc_s_goto dX3_usesFirst_28 (by decide)) (
  sc_tc (sc_s_iconst dX3_usesFirst_31 (by decide)) (
  sc_tc (sc_s_retZ dX3_usesFirst_32 rfl) ( trivial)))))))))))))))))
set_option maxRecDepth 100000 in
set_option maxHeartbeats 4000000 in
theorem ts_X3_usesSecond : sc_TS yX3_usesSecond cX3_usesSecond 1 (some .boolean) st_X3_usesSecond :=
  sc_tc (sc_s_iload_n dX3_usesSecond_0 rfl) (
  sc_tc (sc_s_iconst dX3_usesSecond_1 (by decide)) (
  sc_tc (sc_s_bipush dX3_usesSecond_2 (by decide)) (
  sc_tc (sc_s_ins dX3_usesSecond_4 mo_44 kM_3_79 kS_44) (
  sc_tc (sc_s_if_ne dX3_usesSecond_7 (by decide)) (
  sc_tc (sc_s_iload_n dX3_usesSecond_10 rfl) (
  sc_tc (sc_s_bipush dX3_usesSecond_11 (by decide)) (
  sc_tc (sc_s_bipush dX3_usesSecond_13 (by decide)) (
  sc_tc (sc_s_ins dX3_usesSecond_15 mo_44 kM_3_79 kS_44) (
  sc_tc (sc_s_if_eq dX3_usesSecond_18 (by decide)) (
  sc_tc (sc_s_iconst dX3_usesSecond_21 (by decide)) (
  sc_tc (sc_s_goto dX3_usesSecond_22 (by decide)) (
  sc_tc (sc_s_iconst dX3_usesSecond_25 (by decide)) (
  sc_tc (sc_s_retZ dX3_usesSecond_26 rfl) ( trivial))))))))))))))
set_option maxRecDepth 100000 in
set_option maxHeartbeats 4000000 in
theorem ts_X3_move : sc_TS yX3_move cX3_move 3 none st_X3_move :=
  sc_tc (sc_s_iload_n dX3_move_0 rfl) (
  sc_tc (sc_s_iconst dX3_move_1 (by decide)) (
  sc_tc (sc_s_iadd dX3_move_2) (
  sc_tc (sc_s_istore_n dX3_move_3 rfl (by decide)) (
  sc_tc (sc_s_aload_n dX3_move_4 rfl) (
  sc_tc (sc_s_get dX3_move_5 (by decide) (by decide) kF_3_34) (
  sc_tc (sc_s_iload_n dX3_move_8 rfl) (
  sc_tc (sc_s_iconst dX3_move_9 (by decide)) (
  sc_tc (sc_s_bastore dX3_move_10) (
  sc_tc (sc_s_aload_n dX3_move_11 rfl) (
  sc_tc (sc_s_get dX3_move_12 (by decide) (by decide) kF_3_34) (
  sc_tc (sc_s_iload_n dX3_move_15 rfl) (
  sc_tc (sc_s_iconst dX3_move_16 (by decide)) (
  sc_tc (sc_s_bastore dX3_move_17) (
  sc_tc (sc_s_aload_n dX3_move_18 rfl) (
  sc_tc (sc_s_get dX3_move_19 (by decide) (by decide) kF_3_38) (
  sc_tc (sc_s_iload_n dX3_move_22 rfl) (
  sc_tc (sc_s_aload_n dX3_move_23 rfl) (
  sc_tc (sc_s_get dX3_move_24 (by decide) (by decide) kF_3_38) (
  sc_tc (sc_s_iload_n dX3_move_27 rfl) (
  sc_tc (sc_s_iaload dX3_move_28) (
  sc_tc (sc_s_iastore dX3_move_29) (
  sc_tc (sc_s_aload_n dX3_move_30 rfl) (
  sc_tc (sc_s_get dX3_move_31 (by decide) (by decide) kF_3_41) (
  sc_tc (sc_s_iload_n dX3_move_34 rfl) (
  sc_tc (sc_s_aload_n dX3_move_35 rfl) (
  sc_tc (sc_s_get dX3_move_36 (by decide) (by decide) kF_3_41) (
  sc_tc (sc_s_iload_n dX3_move_39 rfl) (
  sc_tc (sc_s_iaload dX3_move_40) (
  sc_tc (sc_s_iastore dX3_move_41) (
  sc_tc (sc_s_aload_n dX3_move_42 rfl) (
  sc_tc (sc_s_get dX3_move_43 (by decide) (by decide) kF_3_44) (
  sc_tc (sc_s_iload_n dX3_move_46 rfl) (
  sc_tc (sc_s_aload_n dX3_move_47 rfl) (
  sc_tc (sc_s_get dX3_move_48 (by decide) (by decide) kF_3_44) (
  sc_tc (sc_s_iload_n dX3_move_51 rfl) (
  sc_tc (sc_s_iaload dX3_move_52) (
  sc_tc (sc_s_iastore dX3_move_53) (
  sc_tc (sc_s_aload_n dX3_move_54 rfl) (
  sc_tc (sc_s_get dX3_move_55 (by decide) (by decide) kF_3_47) (
  sc_tc (sc_s_iload_n dX3_move_58 rfl) (
  sc_tc (sc_s_aload_n dX3_move_59 rfl) (
  sc_tc (sc_s_get dX3_move_60 (by decide) (by decide) kF_3_47) (
  sc_tc (sc_s_iload_n dX3_move_63 rfl) (
  sc_tc (sc_s_iaload dX3_move_64) (
  sc_tc (sc_s_iastore dX3_move_65) (
  sc_tc (sc_s_aload_n dX3_move_66 rfl) (
  sc_tc (sc_s_get dX3_move_67 (by decide) (by decide) kF_3_50) (
  sc_tc (sc_s_iload_n dX3_move_70 rfl) (
  sc_tc (sc_s_aload_n dX3_move_71 rfl) (
  sc_tc (sc_s_get dX3_move_72 (by decide) (by decide) kF_3_50) (
  sc_tc (sc_s_iload_n dX3_move_75 rfl) (
  sc_tc (sc_s_iaload dX3_move_76) (
  sc_tc (sc_s_iastore dX3_move_77) (
  sc_tc (sc_s_aload_n dX3_move_78 rfl) (
  sc_tc (sc_s_get dX3_move_79 (by decide) (by decide) kF_3_53) (
  sc_tc (sc_s_iload_n dX3_move_82 rfl) (
  sc_tc (sc_s_aload_n dX3_move_83 rfl) (
  sc_tc (sc_s_get dX3_move_84 (by decide) (by decide) kF_3_53) (
  sc_tc (sc_s_iload_n dX3_move_87 rfl) (
  sc_tc (sc_s_iaload dX3_move_88) (
  sc_tc (sc_s_iastore dX3_move_89) (
  sc_tc (sc_s_aload_n dX3_move_90 rfl) (
  sc_tc (sc_s_get dX3_move_91 (by decide) (by decide) kF_3_56) (
  sc_tc (sc_s_iload_n dX3_move_94 rfl) (
  sc_tc (sc_s_aload_n dX3_move_95 rfl) (
  sc_tc (sc_s_get dX3_move_96 (by decide) (by decide) kF_3_56) (
  sc_tc (sc_s_iload_n dX3_move_99 rfl) (
  sc_tc (sc_s_iaload dX3_move_100) (
  sc_tc (sc_s_iastore dX3_move_101) (
  sc_tc (sc_s_aload_n dX3_move_102 rfl) (
  sc_tc (sc_s_get dX3_move_103 (by decide) (by decide) kF_3_59) (
  sc_tc (sc_s_iload_n dX3_move_106 rfl) (
  sc_tc (sc_s_aload_n dX3_move_107 rfl) (
  sc_tc (sc_s_get dX3_move_108 (by decide) (by decide) kF_3_59) (
  sc_tc (sc_s_iload_n dX3_move_111 rfl) (
  sc_tc (sc_s_iaload dX3_move_112) (
  sc_tc (sc_s_iastore dX3_move_113) (
  sc_tc (sc_s_aload_n dX3_move_114 rfl) (
  sc_tc (sc_s_get dX3_move_115 (by decide) (by decide) kF_3_62) (
  sc_tc (sc_s_iload_n dX3_move_118 rfl) (
  sc_tc (sc_s_aload_n dX3_move_119 rfl) (
  sc_tc (sc_s_get dX3_move_120 (by decide) (by decide) kF_3_62) (
  sc_tc (sc_s_iload_n dX3_move_123 rfl) (
  sc_tc (sc_s_iaload dX3_move_124) (
  sc_tc (sc_s_iastore dX3_move_125) (
  sc_tc (sc_s_aload_n dX3_move_126 rfl) (
  sc_tc (sc_s_get dX3_move_127 (by decide) (by decide) kF_3_65) (
  sc_tc (sc_s_iload_n dX3_move_130 rfl) (
  sc_tc (sc_s_aload_n dX3_move_131 rfl) (
  sc_tc (sc_s_get dX3_move_132 (by decide) (by decide) kF_3_65) (
  sc_tc (sc_s_iload_n dX3_move_135 rfl) (
  sc_tc (sc_s_iaload dX3_move_136) (
  sc_tc (sc_s_iastore dX3_move_137) (
  sc_tc (sc_s_retV dX3_move_138 rfl) ( trivial)))))))))))))))))))))))))))))))))))))))))))))))))))))))))))))))))))))))))))))))))))))))))))))))
set_option maxRecDepth 100000 in
set_option maxHeartbeats 4000000 in
theorem ts_X3_leave : sc_TS yX3_leave cX3_leave 2 (some .boolean) st_X3_leave :=
  sc_tc (sc_s_aload_n dX3_leave_0 rfl) (
  sc_tc (sc_s_get dX3_leave_1 (by decide) (by decide) kF_3_34) (
  sc_tc (sc_s_iconst dX3_leave_4 (by decide)) (
  sc_tc (sc_s_baload dX3_leave_5) (
  sc_tc (sc_s_if_ne dX3_leave_6 (by decide)) (
  sc_tc (sc_s_iconst dX3_leave_9 (by decide)) (
  sc_tc (sc_s_retZ dX3_leave_10 rfl) (
  sc_tc (sc_s_aload_n dX3_leave_11 rfl) (
  sc_tc (sc_s_get dX3_leave_12 (by decide) (by decide) kF_3_34) (
  sc_tc (sc_s_iconst dX3_leave_15 (by decide)) (
  sc_tc (sc_s_iconst dX3_leave_16 (by decide)) (
  sc_tc (sc_s_bastore dX3_leave_17) (
  sc_tc (sc_s_aload_n dX3_leave_18 rfl) (
  sc_tc (sc_s_get dX3_leave_19 (by decide) (by decide) kF_3_65) (
  sc_tc (sc_s_iconst dX3_leave_22 (by decide)) (
  sc_tc (sc_s_iaload dX3_leave_23) (
  sc_tc (sc_s_if_le dX3_leave_24 (by decide)) (
  sc_tc (sc_s_aload_n dX3_leave_27 rfl) (
  sc_tc (sc_s_dup dX3_leave_28) (
  sc_tc (sc_s_get dX3_leave_29 (by decide) (by decide) kF_3_95) (
  sc_tc (sc_s_iconst dX3_leave_32 (by decide)) (
  sc_tc (sc_s_iadd dX3_leave_33) (
  sc_tc (sc_s_putI dX3_leave_34 (Or.inr (Or.inr rfl)) (by decide) rfl rfl (by decide +kernel) kF_3_95) (
  sc_tc (sc_s_aload_n dX3_leave_37 rfl) (
  sc_tc (sc_s_aload_n dX3_leave_38 rfl) (
  sc_tc (sc_s_get dX3_leave_39 (by decide) (by decide) kF_3_65) (
  sc_tc (sc_s_iconst dX3_leave_42 (by decide)) (
  sc_tc (sc_s_iaload dX3_leave_43) (
  sc_tc (sc_s_putI dX3_leave_44 (Or.inr (Or.inr rfl)) (by decide) rfl rfl (by decide +kernel) kF_3_98) (
  sc_tc (sc_s_aload_n dX3_leave_47 rfl) (
  sc_tc (sc_s_aload_n dX3_leave_48 rfl) (
  sc_tc (sc_s_get dX3_leave_49 (by decide) (by decide) kF_3_38) (
  sc_tc (sc_s_iconst dX3_leave_52 (by decide)) (
  sc_tc (sc_s_iaload dX3_leave_53) (
  sc_tc (sc_s_putI dX3_leave_54 (Or.inr (Or.inr rfl)) (by decide) rfl rfl (by decide +kernel) kF_3_101) (
  sc_tc (sc_s_aload_n dX3_leave_57 rfl) (
  sc_tc (sc_s_aload_n dX3_leave_58 rfl) (
  sc_tc (sc_s_get dX3_leave_59 (by decide) (by decide) kF_3_92) (
  sc_tc (sc_s_putI dX3_leave_62 (Or.inr (Or.inr rfl)) (by decide) rfl rfl (by decide +kernel) kF_3_85) (
  sc_tc (sc_s_aload_n dX3_leave_65 rfl) (
  sc_tc (sc_s_inv dX3_leave_66 mo_50 (by decide) rfl kM_3_82 kI_50 kL_50) (
  sc_tc (sc_s_iconst dX3_leave_69 (by decide)) (
  sc_tc (sc_s_retZ dX3_leave_70 rfl) (
  sc_tc (sc_s_aload_n dX3_leave_71 rfl) (
  sc_tc (sc_s_get dX3_leave_72 (by decide) (by decide) kF_3_41) (
  sc_tc (sc_s_iconst dX3_leave_75 (by decide)) (
  sc_tc (sc_s_iaload dX3_leave_76) (
  sc_tc (sc_s_bipush dX3_leave_77 (by decide)) (
  sc_tc (sc_s_icmp_ne dX3_leave_79 (by decide)) (
  sc_tc (sc_s_aload_n dX3_leave_82 rfl) (
  sc_tc (sc_s_iconst dX3_leave_83 (by decide)) (
  sc_tc (sc_s_putZ dX3_leave_84 (Or.inr (Or.inr rfl)) (by decide) rfl rfl (by decide +kernel) kF_3_88) (
  sc_tc (sc_s_aload_n dX3_leave_87 rfl) (
  sc_tc (sc_s_inv dX3_leave_88 mo_50 (by decide) rfl kM_3_82 kI_50 kL_50) (
  sc_tc (sc_s_iconst dX3_leave_91 (by decide)) (
  sc_tc (sc_s_retZ dX3_leave_92 rfl) (
  sc_tc (sc_s_aload_n dX3_leave_93 rfl) (
  sc_tc (sc_s_get dX3_leave_94 (by decide) (by decide) kF_3_41) (
  sc_tc (sc_s_iconst dX3_leave_97 (by decide)) (
  sc_tc (sc_s_iaload dX3_leave_98) (
  sc_tc (sc_s_ins dX3_leave_99 mo_53 kM_3_104 kS_53) (
  sc_tc (sc_s_if_eq dX3_leave_102 (by decide)) (
  sc_tc (sc_s_aload_n dX3_leave_105 rfl) (
  sc_tc (sc_s_get dX3_leave_106 (by decide) (by decide) kF_3_44) (
  sc_tc (sc_s_iconst dX3_leave_109 (by decide)) (
  sc_tc (sc_s_iaload dX3_leave_110) (
  sc_tc (sc_s_if_eq dX3_leave_111 (by decide)) (
  sc_tc (sc_s_aload_n dX3_leave_114 rfl) (
  sc_tc (sc_s_get dX3_leave_115 (by decide) (by decide) kF_3_28) (
  sc_tc (sc_s_aload_n dX3_leave_118 rfl) (
  sc_tc (sc_s_get dX3_leave_119 (by decide) (by decide) kF_3_44) (
  sc_tc (sc_s_iconst dX3_leave_122 (by decide)) (
  sc_tc (sc_s_iaload dX3_leave_123) (
  sc_tc (sc_s_aload_n dX3_leave_124 rfl) (
  sc_tc (sc_s_get dX3_leave_125 (by decide) (by decide) kF_3_59) (
  sc_tc (sc_s_iconst dX3_leave_128 (by decide)) (
  sc_tc (sc_s_iaload dX3_leave_129) (
  sc_tc (sc_s_iastore dX3_leave_130) (
  sc_tc (sc_s_aload_n dX3_leave_131 rfl) (
  sc_tc (sc_s_dup dX3_leave_132) (
  sc_tc (sc_s_get dX3_leave_133 (by decide) (by decide) kF_3_108) (
  sc_tc (sc_s_iconst dX3_leave_136 (by decide)) (
  sc_tc (sc_s_iadd dX3_leave_137) (
  sc_tc (sc_s_putI dX3_leave_138 (Or.inr (Or.inr rfl)) (by decide) rfl rfl (by decide +kernel) kF_3_108) (
  sc_tc (sc_s_bipush dX3_leave_141 (by decide)) (
  sc_tc (sc_s_istore_n dX3_leave_143 rfl (by decide)) (
  sc_tc (sc_s_iload_n dX3_leave_144 rfl) (
  sc_tc (sc_s_if_le dX3_leave_145 (by decide)) (
  sc_tc (sc_s_aload_n dX3_leave_148 rfl) (
  sc_tc (sc_s_get dX3_leave_149 (by decide) (by decide) kF_3_68) (
  sc_tc (sc_s_iload_n dX3_leave_152 rfl) (
  sc_tc (sc_s_aload_n dX3_leave_153 rfl) (
  sc_tc (sc_s_get dX3_leave_154 (by decide) (by decide) kF_3_68) (
  sc_tc (sc_s_iload_n dX3_leave_157 rfl) (
  sc_tc (sc_s_iconst dX3_leave_158 (by decide)) (
  sc_tc (sc_s_isub dX3_leave_159) (
  sc_tc (sc_s_iaload dX3_leave_160) (
  sc_tc (sc_s_iastore dX3_leave_161) (
  sc_tc (sc_s_iinc dX3_leave_162 (by decide) (by decide)) (
  sc_tc (sc_s_goto dX3_leave_165 (by decide)) (
  sc_tc (sc_s_aload_n dX3_leave_168 rfl) (
  sc_tc (sc_s_get dX3_leave_169 (by decide) (by decide) kF_3_68) (
  sc_tc (sc_s_iconst dX3_leave_172 (by decide)) (
  sc_tc (sc_s_aload_n dX3_leave_173 rfl) (
  sc_tc (sc_s_get dX3_leave_174 (by decide) (by decide) kF_3_38) (
  sc_tc (sc_s_iconst dX3_leave_177 (by decide)) (
  sc_tc (sc_s_iaload dX3_leave_178) (
  sc_tc (sc_s_iastore dX3_leave_179) (
  sc_tc (sc_s_aload_n dX3_leave_180 rfl) (
  sc_tc (sc_s_aload_n dX3_leave_181 rfl) (
  sc_tc (sc_s_get dX3_leave_182 (by decide) (by decide) kF_3_111) (
  sc_tc (sc_s_bipush dX3_leave_185 (by decide)) (
  sc_tc (sc_s_icmp_ge dX3_leave_187 (by decide)) (
  sc_tc (sc_s_aload_n dX3_leave_190 rfl) (
  sc_tc (sc_s_get dX3_leave_191 (by decide) (by decide) kF_3_111) (
  sc_tc (sc_s_iconst dX3_leave_194 (by decide)) (
  sc_tc (sc_s_iadd dX3_leave_195) (
  sc_tc (sc_s_goto dX3_leave_196 (by decide)) (
  sc_tc (sc_s_bipush dX3_leave_199 (by decide)) (
  sc_tc (sc_s_putI dX3_leave_201 (Or.inr (Or.inr rfl)) (by decide) rfl rfl (by decide +kernel) kF_3_111) (
  sc_tc (sc_s_iconst dX3_leave_204 (by decide)) (
  sc_tc (sc_s_retZ dX3_leave_205 rfl) ( trivial))))))))))))))))))))))))))))))))))))))))))))))))))))))))))))))))))))))))))))))))))))))))))))))))))))))))))))))))))))))))))
set_option maxRecDepth 100000 in
set_option maxHeartbeats 4000000 in
theorem ts_X3_remember : sc_TS yX3_remember cX3_remember 1 none st_X3_remember :=
  sc_tc (sc_s_aload_n dX3_remember_0 rfl) (
  sc_tc (sc_s_get dX3_remember_1 (by decide) (by decide) kF_3_34) (
  sc_tc (sc_s_iconst dX3_remember_4 (by decide)) (
  sc_tc (sc_s_baload dX3_remember_5) (
  sc_tc (sc_s_if_ne dX3_remember_6 (by decide)) (
  sc_tc (sc_s_retV dX3_remember_9 rfl) (
  sc_tc (sc_s_aload_n dX3_remember_10 rfl) (
  sc_tc (sc_s_iconst dX3_remember_11 (by decide)) (
  sc_tc (sc_s_inv dX3_remember_12 mo_56 (by decide) rfl kM_3_114 kI_56 kL_56) (
  sc_tc (sc_s_aload_n dX3_remember_15 rfl) (
  sc_tc (sc_s_get dX3_remember_16 (by decide) (by decide) kF_3_65) (
  sc_tc (sc_s_iconst dX3_remember_19 (by decide)) (
  sc_tc (sc_s_iaload dX3_remember_20) (
  sc_tc (sc_s_if_ne dX3_remember_21 (by decide)) (
  sc_tc (sc_s_aload_n dX3_remember_24 rfl) (
  sc_tc (sc_s_get dX3_remember_25 (by decide) (by decide) kF_3_41) (
  sc_tc (sc_s_iconst dX3_remember_28 (by decide)) (
  sc_tc (sc_s_iaload dX3_remember_29) (
  sc_tc (sc_s_bipush dX3_remember_30 (by decide)) (
  sc_tc (sc_s_icmp_ne dX3_remember_32 (by decide)) (
  sc_tc (sc_s_aload_n dX3_remember_35 rfl) (
  sc_tc (sc_s_get dX3_remember_36 (by decide) (by decide) kF_3_59) (
  sc_tc (sc_s_iconst dX3_remember_39 (by decide)) (
  sc_tc (sc_s_aload_n dX3_remember_40 rfl) (
  sc_tc (sc_s_get dX3_remember_41 (by decide) (by decide) kF_3_25) (
  sc_tc (sc_s_aload_n dX3_remember_44 rfl) (
  sc_tc (sc_s_get dX3_remember_45 (by decide) (by decide) kF_3_62) (
  sc_tc (sc_s_iconst dX3_remember_48 (by decide)) (
  sc_tc (sc_s_iaload dX3_remember_49) (
  sc_tc (sc_s_iaload dX3_remember_50) (
  sc_tc (sc_s_iastore dX3_remember_51) (
  sc_tc (sc_s_aload_n dX3_remember_52 rfl) (
  sc_tc (sc_s_get dX3_remember_53 (by decide) (by decide) kF_3_65) (
  sc_tc (sc_s_iconst dX3_remember_56 (by decide)) (
  sc_tc (sc_s_iaload dX3_remember_57) (
  sc_tc (sc_s_if_ne dX3_remember_58 (by decide)) (
  sc_tc (sc_s_aload_n dX3_remember_61 rfl) (
  sc_tc (sc_s_get dX3_remember_62 (by decide) (by decide) kF_3_41) (
  sc_tc (sc_s_iconst dX3_remember_65 (by decide)) (
  sc_tc (sc_s_iaload dX3_remember_66) (
  sc_tc (sc_s_bipush dX3_remember_67 (by decide)) (
  sc_tc (sc_s_icmp_ne dX3_remember_69 (by decide)) (
  sc_tc (sc_s_aload_n dX3_remember_72 rfl) (
  sc_tc (sc_s_get dX3_remember_73 (by decide) (by decide) kF_3_25) (
  sc_tc (sc_s_aload_n dX3_remember_76 rfl) (
  sc_tc (sc_s_get dX3_remember_77 (by decide) (by decide) kF_3_62) (
  sc_tc (sc_s_iconst dX3_remember_80 (by decide)) (
  sc_tc (sc_s_iaload dX3_remember_81) (
  sc_tc (sc_s_aload_n dX3_remember_82 rfl) (
  sc_tc (sc_s_get dX3_remember_83 (by decide) (by decide) kF_3_59) (
  sc_tc (sc_s_iconst dX3_remember_86 (by decide)) (
  sc_tc (sc_s_iaload dX3_remember_87) (
  sc_tc (sc_s_iastore dX3_remember_88) (
  sc_tc (sc_s_retV dX3_remember_89 rfl) ( trivial))))))))))))))))))))))))))))))))))))))))))))))))))))))
set_option maxRecDepth 100000 in
set_option maxHeartbeats 4000000 in
theorem ts_X3_read : sc_TS yX3_read cX3_read 3 (some .int) st_X3_read :=
  sc_tc (sc_s_aload_n dX3_read_0 rfl) (
  sc_tc (sc_s_get dX3_read_1 (by decide) (by decide) kF_3_34) (
  sc_tc (sc_s_iconst dX3_read_4 (by decide)) (
  sc_tc (sc_s_baload dX3_read_5) (
  sc_tc (sc_s_if_eq dX3_read_6 (by decide)) (
  sc_tc (sc_s_aload_n dX3_read_9 rfl) (
  sc_tc (sc_s_get dX3_read_10 (by decide) (by decide) kF_3_65) (
  sc_tc (sc_s_iconst dX3_read_13 (by decide)) (
  sc_tc (sc_s_iaload dX3_read_14) (
  sc_tc (sc_s_if_ne dX3_read_15 (by decide)) (
  sc_tc (sc_s_aload_n dX3_read_18 rfl) (
  sc_tc (sc_s_get dX3_read_19 (by decide) (by decide) kF_3_41) (
  sc_tc (sc_s_iconst dX3_read_22 (by decide)) (
  sc_tc (sc_s_iaload dX3_read_23) (
  sc_tc (sc_s_ins dX3_read_24 mo_53 kM_3_104 kS_53) (
  sc_tc (sc_s_if_eq dX3_read_27 (by decide)) (
  sc_tc (sc_s_aload_n dX3_read_30 rfl) (
  sc_tc (sc_s_get dX3_read_31 (by decide) (by decide) kF_3_44) (
  sc_tc (sc_s_iconst dX3_read_34 (by decide)) (
  sc_tc (sc_s_iaload dX3_read_35) (
  sc_tc (sc_s_iload_n dX3_read_36 rfl) (
  sc_tc (sc_s_icmp_ne dX3_read_37 (by decide)) (
  sc_tc (sc_s_iload_n dX3_read_40 rfl) (
  sc_tc (sc_s_if_eq dX3_read_41 (by decide)) (
  sc_tc (sc_s_iconst dX3_read_44 (by decide)) (
  sc_tc (sc_s_goto dX3_read_45 (by decide)) (
  sc_tc (sc_s_iconst dX3_read_48 (by decide)) (
  sc_tc (sc_s_istore_n dX3_read_49 rfl (by decide)) (
  sc_tc (sc_s_iload_n dX3_read_50 rfl) (
  sc_tc (sc_s_if_eq dX3_read_51 (by decide)) (
  sc_tc (sc_s_aload_n dX3_read_54 rfl) (
  sc_tc (sc_s_get dX3_read_55 (by decide) (by decide) kF_3_59) (
  sc_tc (sc_s_iconst dX3_read_58 (by decide)) (
  sc_tc (sc_s_iaload dX3_read_59) (
  sc_tc (sc_s_goto dX3_read_60 (by decide)) (
  sc_tc (sc_s_aload_n dX3_read_63 rfl) (
  sc_tc (sc_s_get dX3_read_64 (by decide) (by decide) kF_3_28) (
  sc_tc (sc_s_iload_n dX3_read_67 rfl) (
  sc_tc (sc_s_iaload dX3_read_68) (
  sc_tc (sc_s_retI dX3_read_69 rfl) ( trivial))))))))))))))))))))))))))))))))))))))))
set_option maxRecDepth 100000 in
set_option maxHeartbeats 4000000 in
theorem ts_X3_reckon : sc_TS yX3_reckon cX3_reckon 3 (some .int) st_X3_reckon :=
  sc_tc (sc_s_iload_n dX3_reckon_0 rfl) (
  sc_tc (sc_s_sw dX3_reckon_1 (by decide) (by decide) (by decide +kernel)) (
  sc_tc (sc_s_iload_n dX3_reckon_48 rfl) (
  sc_tc (sc_s_iload_n dX3_reckon_49 rfl) (
  sc_tc (sc_s_iadd dX3_reckon_50) (
  sc_tc (sc_s_retI dX3_reckon_51 rfl) (
  sc_tc (sc_s_iload_n dX3_reckon_52 rfl) (
  sc_tc (sc_s_iload_n dX3_reckon_53 rfl) (
  sc_tc (sc_s_isub dX3_reckon_54) (
  sc_tc (sc_s_retI dX3_reckon_55 rfl) (
  sc_tc (sc_s_iload_n dX3_reckon_56 rfl) (
  sc_tc (sc_s_iload_n dX3_reckon_57 rfl) (
  sc_tc (sc_s_iand dX3_reckon_58) (
  sc_tc (sc_s_retI dX3_reckon_59 rfl) (
  sc_tc (sc_s_iload_n dX3_reckon_60 rfl) (
  sc_tc (sc_s_iload_n dX3_reckon_61 rfl) (
  sc_tc (sc_s_ior dX3_reckon_62) (
  sc_tc (sc_s_retI dX3_reckon_63 rfl) (
  sc_tc (sc_s_iload_n dX3_reckon_64 rfl) (
  sc_tc (sc_s_iload_n dX3_reckon_65 rfl) (
  sc_tc (sc_s_ixor dX3_reckon_66) (
  sc_tc (sc_s_retI dX3_reckon_67 rfl) (
  sc_tc (sc_s_iload_n dX3_reckon_68 rfl) (
  sc_tc (sc_s_iload_n dX3_reckon_69 rfl) (
  sc_tc (sc_s_bipush dX3_reckon_70 (by decide)) (
  sc_tc (sc_s_iand dX3_reckon_72) (
  sc_tc (sc_s_ishl dX3_reckon_73) (
  sc_tc (sc_s_retI dX3_reckon_74 rfl) (
  sc_tc (sc_s_iload_n dX3_reckon_75 rfl) (
  sc_tc (sc_s_iload_n dX3_reckon_76 rfl) (
  sc_tc (sc_s_icmp_ge dX3_reckon_77 (by decide)) (
  sc_tc (sc_s_iconst dX3_reckon_80 (by decide)) (
  sc_tc (sc_s_goto dX3_reckon_81 (by decide)) (
  sc_tc (sc_s_iconst dX3_reckon_84 (by decide)) (
  sc_tc (sc_s_retI dX3_reckon_85 rfl) (
  sc_tc (sc_s_iload_n dX3_reckon_86 rfl) (
  sc_tc (sc_s_iload_n dX3_reckon_87 rfl) (
  sc_tc (sc_s_imul dX3_reckon_88) (
  sc_tc (sc_s_retI dX3_reckon_89 rfl) (
  sc_tc (sc_s_iload_n dX3_reckon_90 rfl) (
  sc_tc (sc_s_if_ne dX3_reckon_91 (by decide)) (
  sc_tc (sc_s_iconst dX3_reckon_94 (by decide)) (
  sc_tc (sc_s_goto dX3_reckon_95 (by decide)) (
  sc_tc (sc_s_iload_n dX3_reckon_98 rfl) (
  sc_tc (sc_s_iload_n dX3_reckon_99 rfl) (
  sc_tc (sc_s_idiv dX3_reckon_100) (
  sc_tc (sc_s_retI dX3_reckon_101 rfl) ( trivial)))))))))))))))))))))))))))))))))))))))))))))))
set_option maxRecDepth 100000 in
set_option maxHeartbeats 4000000 in
theorem ts_X3_work : sc_TS yX3_work cX3_work 10 (some .int) st_X3_work :=
  sc_tc (sc_s_aload_n dX3_work_0 rfl) (
  sc_tc (sc_s_get dX3_work_1 (by decide) (by decide) kF_3_41) (
  sc_tc (sc_s_iconst dX3_work_4 (by decide)) (
  sc_tc (sc_s_iaload dX3_work_5) (
  sc_tc (sc_s_istore_n dX3_work_6 rfl (by decide)) (
  sc_tc (sc_s_aload_n dX3_work_7 rfl) (
  sc_tc (sc_s_aload_n dX3_work_8 rfl) (
  sc_tc (sc_s_get dX3_work_9 (by decide) (by decide) kF_3_47) (
  sc_tc (sc_s_iconst dX3_work_12 (by decide)) (
  sc_tc (sc_s_iaload dX3_work_13) (
  sc_tc (sc_s_inv dX3_work_14 mo_59 (by decide) rfl kM_3_118 kI_59 kL_59) (
  sc_tc (sc_s_istore_n dX3_work_17 rfl (by decide)) (
  sc_tc (sc_s_aload_n dX3_work_18 rfl) (
  sc_tc (sc_s_aload_n dX3_work_19 rfl) (
  sc_tc (sc_s_get dX3_work_20 (by decide) (by decide) kF_3_50) (
  sc_tc (sc_s_iconst dX3_work_23 (by decide)) (
  sc_tc (sc_s_iaload dX3_work_24) (
  sc_tc (sc_s_inv dX3_work_25 mo_59 (by decide) rfl kM_3_118 kI_59 kL_59) (
  sc_tc (sc_s_istore_n dX3_work_28 rfl (by decide)) (
  sc_tc (sc_s_aload_n dX3_work_29 rfl) (
  sc_tc (sc_s_get dX3_work_30 (by decide) (by decide) kF_3_38) (
  sc_tc (sc_s_iconst dX3_work_33 (by decide)) (
  sc_tc (sc_s_iaload dX3_work_34) (
  sc_tc (sc_s_istore dX3_work_35 (by decide)) (
  sc_tc (sc_s_aload_n dX3_work_37 rfl) (
  sc_tc (sc_s_get dX3_work_38 (by decide) (by decide) kF_3_53) (
  sc_tc (sc_s_iconst dX3_work_41 (by decide)) (
  sc_tc (sc_s_iaload dX3_work_42) (
  sc_tc (sc_s_istore dX3_work_43 (by decide)) (
  sc_tc (sc_s_iload dX3_work_45) (
  sc_tc (sc_s_iconst dX3_work_47 (by decide)) (
  sc_tc (sc_s_iadd dX3_work_48) (
  sc_tc (sc_s_istore dX3_work_49 (by decide)) (
  sc_tc (sc_s_iconst dX3_work_51 (by decide)) (
  sc_tc (sc_s_istore dX3_work_52 (by decide)) (
  sc_tc (sc_s_iload_n dX3_work_54 rfl) (
  sc_tc (sc_s_bipush dX3_work_55 (by decide)) (
  sc_tc (sc_s_icmp_gt dX3_work_57 (by decide)) (
  sc_tc (sc_s_iload_n dX3_work_60 rfl) (
  sc_tc (sc_s_iload_n dX3_work_61 rfl) (
  sc_tc (sc_s_iload_n dX3_work_62 rfl) (
  sc_tc (sc_s_ins dX3_work_63 mo_60 kM_3_122 kS_60) (
  sc_tc (sc_s_istore dX3_work_66 (by decide)) (
  sc_tc (sc_s_aload_n dX3_work_68 rfl) (
  sc_tc (sc_s_get dX3_work_69 (by decide) (by decide) kF_3_65) (
  sc_tc (sc_s_iconst dX3_work_72 (by decide)) (
  sc_tc (sc_s_iload_n dX3_work_73 rfl) (
  sc_tc (sc_s_bipush dX3_work_74 (by decide)) (
  sc_tc (sc_s_icmp_ne dX3_work_76 (by decide)) (
  sc_tc (sc_s_iload_n dX3_work_79 rfl) (
  sc_tc (sc_s_if_ne dX3_work_80 (by decide)) (
  sc_tc (sc_s_iconst dX3_work_83 (by decide)) (
  sc_tc (sc_s_goto dX3_work_84 (by decide)) (
  sc_tc (sc_s_aload_n dX3_work_87 rfl) (
  sc_tc (sc_s_get dX3_work_88 (by decide) (by decide) kF_3_65) (
  sc_tc (sc_s_iconst dX3_work_91 (by decide)) (
  sc_tc (sc_s_iaload dX3_work_92) (
  sc_tc (sc_s_iastore dX3_work_93) (
  sc_tc (sc_s_goto dX3_work_94 (by decide)) (
  sc_tc (sc_s_iload_n dX3_work_97 rfl) (
  sc_tc (sc_s_bipush dX3_work_98 (by decide)) (
  sc_tc (sc_s_icmp_eq dX3_work_100 (by decide)) (
  sc_tc (sc_s_iload_n dX3_work_103 rfl) (
  sc_tc (sc_s_bipush dX3_work_104 (by decide)) (
  sc_tc (sc_s_icmp_ne dX3_work_106 (by decide)) (
  sc_tc (sc_s_iload_n dX3_work_109 rfl) (
  sc_tc (sc_s_bipush dX3_work_110 (by decide)) (
  sc_tc (sc_s_icmp_ne dX3_work_112 (by decide)) (
  sc_tc (sc_s_iload dX3_work_115) (
  sc_tc (sc_s_goto dX3_work_117 (by decide)) (
  sc_tc (sc_s_iload_n dX3_work_120 rfl) (
  sc_tc (sc_s_iload dX3_work_121) (
  sc_tc (sc_s_iadd dX3_work_123) (
  sc_tc (sc_s_istore dX3_work_124 (by decide)) (
  sc_tc (sc_s_goto dX3_work_126 (by decide)) (
  sc_tc (sc_s_iload_n dX3_work_129 rfl) (
  sc_tc (sc_s_bipush dX3_work_130 (by decide)) (
  sc_tc (sc_s_icmp_eq dX3_work_132 (by decide)) (
  sc_tc (sc_s_iload_n dX3_work_135 rfl) (
  sc_tc (sc_s_bipush dX3_work_136 (by decide)) (
  sc_tc (sc_s_icmp_ne dX3_work_138 (by decide)) (
  sc_tc (sc_s_aload_n dX3_work_141 rfl) (
  sc_tc (sc_s_get dX3_work_142 (by decide) (by decide) kF_3_62) (
  sc_tc (sc_s_iconst dX3_work_145 (by decide)) (
  sc_tc (sc_s_iload_n dX3_work_146 rfl) (
  sc_tc (sc_s_iload dX3_work_147) (
  sc_tc (sc_s_iadd dX3_work_149) (
  sc_tc (sc_s_iastore dX3_work_150) (
  sc_tc (sc_s_iload_n dX3_work_151 rfl) (
  sc_tc (sc_s_istore dX3_work_152 (by decide)) (
  sc_tc (sc_s_aload_n dX3_work_154 rfl) (
  sc_tc (sc_s_get dX3_work_155 (by decide) (by decide) kF_3_65) (
  sc_tc (sc_s_iconst dX3_work_158 (by decide)) (
  sc_tc (sc_s_iload_n dX3_work_159 rfl) (
  sc_tc (sc_s_iload dX3_work_160) (
  sc_tc (sc_s_iadd dX3_work_162) (
  sc_tc (sc_s_iconst dX3_work_163 (by decide)) (
  sc_tc (sc_s_bipush dX3_work_164 (by decide)) (
  sc_tc (sc_s_ins dX3_work_166 mo_44 kM_3_79 kS_44) (
  sc_tc (sc_s_if_eq dX3_work_169 (by decide)) (
  sc_tc (sc_s_aload_n dX3_work_172 rfl) (
  sc_tc (sc_s_get dX3_work_173 (by decide) (by decide) kF_3_65) (
  sc_tc (sc_s_iconst dX3_work_176 (by decide)) (
  sc_tc (sc_s_iaload dX3_work_177) (
  sc_tc (sc_s_goto dX3_work_178 (by decide)) (
  sc_tc (sc_s_iconst dX3_work_181 (by decide)) (
  sc_tc (sc_s_iastore dX3_work_182) (
  sc_tc (sc_s_goto dX3_work_183 (by decide)) (
  sc_tc (sc_s_iload_n dX3_work_186 rfl) (
  sc_tc (sc_s_bipush dX3_work_187 (by decide)) (
  sc_tc (sc_s_icmp_eq dX3_work_189 (by decide)) (
  sc_tc (sc_s_iload_n dX3_work_192 rfl) (
  sc_tc (sc_s_bipush dX3_work_193 (by decide)) (
  sc_tc (sc_s_icmp_ne dX3_work_195 (by decide)) (
  sc_tc (sc_s_iload_n dX3_work_198 rfl) (
  sc_tc (sc_s_iload_n dX3_work_199 rfl) (
  sc_tc (sc_s_icmp_ne dX3_work_200 (by decide)) (
  sc_tc (sc_s_iconst dX3_work_203 (by decide)) (
  sc_tc (sc_s_goto dX3_work_204 (by decide)) (
  sc_tc (sc_s_iconst dX3_work_207 (by decide)) (
  sc_tc (sc_s_iload_n dX3_work_208 rfl) (
  sc_tc (sc_s_bipush dX3_work_209 (by decide)) (
  sc_tc (sc_s_icmp_ne dX3_work_211 (by decide)) (
  sc_tc (sc_s_iconst dX3_work_214 (by decide)) (
  sc_tc (sc_s_goto dX3_work_215 (by decide)) (
  sc_tc (sc_s_iconst dX3_work_218 (by decide)) (
  sc_tc (sc_s_icmp_ne dX3_work_219 (by decide)) (
  sc_tc (sc_s_iconst dX3_work_222 (by decide)) (
  sc_tc (sc_s_goto dX3_work_223 (by decide)) (
  sc_tc (sc_s_iconst dX3_work_226 (by decide)) (
  sc_tc (sc_s_istore dX3_work_227 (by decide)) (
  sc_tc (sc_s_iload dX3_work_229) (
  sc_tc (sc_s_bipush dX3_work_231 (by decide)) (
  sc_tc (sc_s_iand dX3_work_233) (
  sc_tc (sc_s_istore dX3_work_234 (by decide)) (
  sc_tc (sc_s_aload_n dX3_work_236 rfl) (
  sc_tc (sc_s_get dX3_work_237 (by decide) (by decide) kF_3_31) (
  sc_tc (sc_s_iload dX3_work_240) (
  sc_tc (sc_s_iload dX3_work_242) (
  sc_tc (sc_s_if_eq dX3_work_244 (by decide)) (
  sc_tc (sc_s_aload_n dX3_work_247 rfl) (
  sc_tc (sc_s_get dX3_work_248 (by decide) (by decide) kF_3_31) (
  sc_tc (sc_s_iload dX3_work_251) (
  sc_tc (sc_s_iaload dX3_work_253) (
  sc_tc (sc_s_iconst dX3_work_254 (by decide)) (
  sc_tc (sc_s_icmp_ge dX3_work_255 (by decide)) (
  sc_tc (sc_s_aload_n dX3_work_258 rfl) (
  sc_tc (sc_s_get dX3_work_259 (by decide) (by decide) kF_3_31) (
  sc_tc (sc_s_iload dX3_work_262) (
  sc_tc (sc_s_iaload dX3_work_264) (
  sc_tc (sc_s_iconst dX3_work_265 (by decide)) (
  sc_tc (sc_s_iadd dX3_work_266) (
  sc_tc (sc_s_goto dX3_work_267 (by decide)) (
  sc_tc (sc_s_iconst dX3_work_270 (by decide)) (
  sc_tc (sc_s_goto dX3_work_271 (by decide)) (
  sc_tc (sc_s_aload_n dX3_work_274 rfl) (
  sc_tc (sc_s_get dX3_work_275 (by decide) (by decide) kF_3_31) (
  sc_tc (sc_s_iload dX3_work_278) (
  sc_tc (sc_s_iaload dX3_work_280) (
  sc_tc (sc_s_if_le dX3_work_281 (by decide)) (
  sc_tc (sc_s_aload_n dX3_work_284 rfl) (
  sc_tc (sc_s_get dX3_work_285 (by decide) (by decide) kF_3_31) (
  sc_tc (sc_s_iload dX3_work_288) (
  sc_tc (sc_s_iaload dX3_work_290) (
  sc_tc (sc_s_iconst dX3_work_291 (by decide)) (
  sc_tc (sc_s_isub dX3_work_292) (
  sc_tc (sc_s_goto dX3_work_293 (by decide)) (
  sc_tc (sc_s_iconst dX3_work_296 (by decide)) (
  sc_tc (sc_s_iastore dX3_work_297) (
  sc_tc (sc_s_iload dX3_work_298) (
  sc_tc (sc_s_if_eq dX3_work_300 (by decide)) (
  sc_tc (sc_s_iload dX3_work_303) (
  sc_tc (sc_s_iload dX3_work_305) (
  sc_tc (sc_s_iadd dX3_work_307) (
  sc_tc (sc_s_goto dX3_work_308 (by decide)) (
  sc_tc (sc_s_iload dX3_work_311) (
  sc_tc (sc_s_istore dX3_work_313 (by decide)) (
  sc_tc (sc_s_goto dX3_work_315 (by decide)) (
  sc_tc (sc_s_iload_n dX3_work_318 rfl) (
  sc_tc (sc_s_bipush dX3_work_319 (by decide)) (
  sc_tc (sc_s_icmp_eq dX3_work_321 (by decide)) (
  sc_tc (sc_s_iload_n dX3_work_324 rfl) (
  sc_tc (sc_s_bipush dX3_work_325 (by decide)) (
  sc_tc (sc_s_icmp_ne dX3_work_327 (by decide)) (
  sc_tc (sc_s_iload dX3_work_330) (
  sc_tc (sc_s_iconst dX3_work_332 (by decide)) (
  sc_tc (sc_s_iadd dX3_work_333) (
  sc_tc (sc_s_istore dX3_work_334 (by decide)) (
  sc_tc (sc_s_iload_n dX3_work_336 rfl) (
  sc_tc (sc_s_bipush dX3_work_337 (by decide)) (
  sc_tc (sc_s_icmp_ne dX3_work_339 (by decide)) (
  sc_tc (sc_s_iload dX3_work_342) (
  sc_tc (sc_s_iload dX3_work_344) (
  sc_tc (sc_s_iadd dX3_work_346) (
  sc_tc (sc_s_goto dX3_work_347 (by decide)) (
  sc_tc (sc_s_iload_n dX3_work_350 rfl) (
  sc_tc (sc_s_iload dX3_work_351) (
  sc_tc (sc_s_iadd dX3_work_353) (
  sc_tc (sc_s_istore dX3_work_354 (by decide)) (
  sc_tc (sc_s_goto dX3_work_356 (by decide)) (
  sc_tc (sc_s_iload_n dX3_work_359 rfl) (
  sc_tc (sc_s_bipush dX3_work_360 (by decide)) (
  sc_tc (sc_s_icmp_ne dX3_work_362 (by decide)) (
  sc_tc (sc_s_aload_n dX3_work_365 rfl) (
  sc_tc (sc_s_get dX3_work_366 (by decide) (by decide) kF_3_65) (
  sc_tc (sc_s_iconst dX3_work_369 (by decide)) (
  sc_tc (sc_s_iconst dX3_work_370 (by decide)) (
  sc_tc (sc_s_iastore dX3_work_371) (
  sc_tc (sc_s_aload_n dX3_work_372 rfl) (
  sc_tc (sc_s_get dX3_work_373 (by decide) (by decide) kF_3_59) (
  sc_tc (sc_s_iconst dX3_work_376 (by decide)) (
  sc_tc (sc_s_iload dX3_work_377) (
  sc_tc (sc_s_iastore dX3_work_379) (
  sc_tc (sc_s_iload dX3_work_380) (
  sc_tc (sc_s_retI dX3_work_382 rfl) ( trivial)))))))))))))))))))))))))))))))))))))))))))))))))))))))))))))))))))))))))))))))))))))))))))))))))))))))))))))))))))))))))))))))))))))))))))))))))))))))))))))))))))))))))))))))))))))))))))))))))))))))))))))))))))))))
set_option maxRecDepth 100000 in
set_option maxHeartbeats 4000000 in
theorem ts_X3_reach : sc_TS yX3_reach cX3_reach 5 none st_X3_reach :=
  sc_tc (sc_s_aload_n dX3_reach_0 rfl) (
  sc_tc (sc_s_get dX3_reach_1 (by decide) (by decide) kF_3_34) (
  sc_tc (sc_s_iconst dX3_reach_4 (by decide)) (
  sc_tc (sc_s_baload dX3_reach_5) (
  sc_tc (sc_s_if_ne dX3_reach_6 (by decide)) (
  sc_tc (sc_s_retV dX3_reach_9 rfl) (
  sc_tc (sc_s_aload_n dX3_reach_10 rfl) (
  sc_tc (sc_s_get dX3_reach_11 (by decide) (by decide) kF_3_41) (
  sc_tc (sc_s_iconst dX3_reach_14 (by decide)) (
  sc_tc (sc_s_iaload dX3_reach_15) (
  sc_tc (sc_s_istore_n dX3_reach_16 rfl (by decide)) (
  sc_tc (sc_s_iload_n dX3_reach_17 rfl) (
  sc_tc (sc_s_if_eq dX3_reach_18 (by decide)) (
  sc_tc (sc_s_iload_n dX3_reach_21 rfl) (
  sc_tc (sc_s_ins dX3_reach_22 mo_54 kM_3_126 kS_54) (
  sc_tc (sc_s_if_eq dX3_reach_25 (by decide)) (
  sc_tc (sc_s_aload_n dX3_reach_28 rfl) (
  sc_tc (sc_s_get dX3_reach_29 (by decide) (by decide) kF_3_47) (
  sc_tc (sc_s_iconst dX3_reach_32 (by decide)) (
  sc_tc (sc_s_iaload dX3_reach_33) (
  sc_tc (sc_s_iload_n dX3_reach_34 rfl) (
  sc_tc (sc_s_icmp_eq dX3_reach_35 (by decide)) (
  sc_tc (sc_s_iload_n dX3_reach_38 rfl) (
  sc_tc (sc_s_ins dX3_reach_39 mo_55 kM_3_129 kS_55) (
  sc_tc (sc_s_if_eq dX3_reach_42 (by decide)) (
  sc_tc (sc_s_aload_n dX3_reach_45 rfl) (
  sc_tc (sc_s_get dX3_reach_46 (by decide) (by decide) kF_3_50) (
  sc_tc (sc_s_iconst dX3_reach_49 (by decide)) (
  sc_tc (sc_s_iaload dX3_reach_50) (
  sc_tc (sc_s_iload_n dX3_reach_51 rfl) (
  sc_tc (sc_s_icmp_ne dX3_reach_52 (by decide)) (
  sc_tc (sc_s_iconst dX3_reach_55 (by decide)) (
  sc_tc (sc_s_goto dX3_reach_56 (by decide)) (
  sc_tc (sc_s_iconst dX3_reach_59 (by decide)) (
  sc_tc (sc_s_istore_n dX3_reach_60 rfl (by decide)) (
  sc_tc (sc_s_iload_n dX3_reach_61 rfl) (
  sc_tc (sc_s_if_eq dX3_reach_62 (by decide)) (
  sc_tc (sc_s_aload_n dX3_reach_65 rfl) (
  sc_tc (sc_s_dup dX3_reach_66) (
  sc_tc (sc_s_get dX3_reach_67 (by decide) (by decide) kF_3_132) (
  sc_tc (sc_s_iconst dX3_reach_70 (by decide)) (
  sc_tc (sc_s_iadd dX3_reach_71) (
  sc_tc (sc_s_putI dX3_reach_72 (Or.inr (Or.inr rfl)) (by decide) rfl rfl (by decide +kernel) kF_3_132) (
  sc_tc (sc_s_retV dX3_reach_75 rfl) (
  sc_tc (sc_s_aload_n dX3_reach_76 rfl) (
  sc_tc (sc_s_dup dX3_reach_77) (
  sc_tc (sc_s_get dX3_reach_78 (by decide) (by decide) kF_3_135) (
  sc_tc (sc_s_iconst dX3_reach_81 (by decide)) (
  sc_tc (sc_s_isub dX3_reach_82) (
  sc_tc (sc_s_putI dX3_reach_83 (Or.inr (Or.inr rfl)) (by decide) rfl rfl (by decide +kernel) kF_3_135) (
  sc_tc (sc_s_aload_n dX3_reach_86 rfl) (
  sc_tc (sc_s_get dX3_reach_87 (by decide) (by decide) kF_3_135) (
  sc_tc (sc_s_if_le dX3_reach_90 (by decide)) (
  sc_tc (sc_s_aload_n dX3_reach_93 rfl) (
  sc_tc (sc_s_dup dX3_reach_94) (
  sc_tc (sc_s_get dX3_reach_95 (by decide) (by decide) kF_3_132) (
  sc_tc (sc_s_iconst dX3_reach_98 (by decide)) (
  sc_tc (sc_s_iadd dX3_reach_99) (
  sc_tc (sc_s_putI dX3_reach_100 (Or.inr (Or.inr rfl)) (by decide) rfl rfl (by decide +kernel) kF_3_132) (
  sc_tc (sc_s_retV dX3_reach_103 rfl) (
  sc_tc (sc_s_aload_n dX3_reach_104 rfl) (
  sc_tc (sc_s_inv dX3_reach_105 mo_61 (by decide) rfl kM_3_138 kI_61 kL_61) (
  sc_tc (sc_s_istore dX3_reach_108 (by decide)) (
  sc_tc (sc_s_aload_n dX3_reach_110 rfl) (
  sc_tc (sc_s_get dX3_reach_111 (by decide) (by decide) kF_3_65) (
  sc_tc (sc_s_iconst dX3_reach_114 (by decide)) (
  sc_tc (sc_s_iaload dX3_reach_115) (
  sc_tc (sc_s_if_ne dX3_reach_116 (by decide)) (
  sc_tc (sc_s_iload dX3_reach_119) (
  sc_tc (sc_s_aload_n dX3_reach_121 rfl) (
  sc_tc (sc_s_get dX3_reach_122 (by decide) (by decide) kF_3_56) (
  sc_tc (sc_s_iconst dX3_reach_125 (by decide)) (
  sc_tc (sc_s_iaload dX3_reach_126) (
  sc_tc (sc_s_icmp_eq dX3_reach_127 (by decide)) (
  sc_tc (sc_s_aload_n dX3_reach_130 rfl) (
  sc_tc (sc_s_dup dX3_reach_131) (
  sc_tc (sc_s_get dX3_reach_132 (by decide) (by decide) kF_3_142) (
  sc_tc (sc_s_iconst dX3_reach_135 (by decide)) (
  sc_tc (sc_s_iadd dX3_reach_136) (
  sc_tc (sc_s_putI dX3_reach_137 (Or.inr (Or.inr rfl)) (by decide) rfl rfl (by decide +kernel) kF_3_142) (
  sc_tc (sc_s_aload_n dX3_reach_140 rfl) (
  sc_tc (sc_s_get dX3_reach_141 (by decide) (by decide) kF_3_34) (
  sc_tc (sc_s_iconst dX3_reach_144 (by decide)) (
  sc_tc (sc_s_iconst dX3_reach_145 (by decide)) (
  sc_tc (sc_s_bastore dX3_reach_146) (
  sc_tc (sc_s_aload_n dX3_reach_147 rfl) (
  sc_tc (sc_s_get dX3_reach_148 (by decide) (by decide) kF_3_34) (
  sc_tc (sc_s_iconst dX3_reach_151 (by decide)) (
  sc_tc (sc_s_iconst dX3_reach_152 (by decide)) (
  sc_tc (sc_s_bastore dX3_reach_153) (
  sc_tc (sc_s_aload_n dX3_reach_154 rfl) (
  sc_tc (sc_s_iload dX3_reach_155) (
  sc_tc (sc_s_putI dX3_reach_157 (Or.inr (Or.inr rfl)) (by decide) rfl rfl (by decide +kernel) kF_3_85) (
  sc_tc (sc_s_aload_n dX3_reach_160 rfl) (
  sc_tc (sc_s_iconst dX3_reach_161 (by decide)) (
  sc_tc (sc_s_inv dX3_reach_162 mo_56 (by decide) rfl kM_3_114 kI_56 kL_56) (
  sc_tc (sc_s_retV dX3_reach_165 rfl) ( trivial)))))))))))))))))))))))))))))))))))))))))))))))))))))))))))))))))))))))))))))))))))))))))))))))))
set_option maxRecDepth 100000 in
set_option maxHeartbeats 4000000 in
theorem ts_X3_fetch : sc_TS yX3_fetch cX3_fetch 4 none st_X3_fetch :=
  sc_tc (sc_s_aload_n dX3_fetch_0 rfl) (
  sc_tc (sc_s_get dX3_fetch_1 (by decide) (by decide) kF_3_85) (
  sc_tc (sc_s_iconst dX3_fetch_4 (by decide)) (
  sc_tc (sc_s_bipush dX3_fetch_5 (by decide)) (
  sc_tc (sc_s_ins dX3_fetch_7 mo_44 kM_3_79 kS_44) (
  sc_tc (sc_s_istore_n dX3_fetch_10 rfl (by decide)) (
  sc_tc (sc_s_aload_n dX3_fetch_11 rfl) (
  sc_tc (sc_s_get dX3_fetch_12 (by decide) (by decide) kF_3_34) (
  sc_tc (sc_s_iconst dX3_fetch_15 (by decide)) (
  sc_tc (sc_s_iconst dX3_fetch_16 (by decide)) (
  sc_tc (sc_s_bastore dX3_fetch_17) (
  sc_tc (sc_s_aload_n dX3_fetch_18 rfl) (
  sc_tc (sc_s_get dX3_fetch_19 (by decide) (by decide) kF_3_38) (
  sc_tc (sc_s_iconst dX3_fetch_22 (by decide)) (
  sc_tc (sc_s_aload_n dX3_fetch_23 rfl) (
  sc_tc (sc_s_get dX3_fetch_24 (by decide) (by decide) kF_3_85) (
  sc_tc (sc_s_iastore dX3_fetch_27) (
  sc_tc (sc_s_aload_n dX3_fetch_28 rfl) (
  sc_tc (sc_s_get dX3_fetch_29 (by decide) (by decide) kF_3_41) (
  sc_tc (sc_s_iconst dX3_fetch_32 (by decide)) (
  sc_tc (sc_s_iload_n dX3_fetch_33 rfl) (
  sc_tc (sc_s_if_eq dX3_fetch_34 (by decide)) (
  sc_tc (sc_s_aload_n dX3_fetch_37 rfl) (
  sc_tc (sc_s_get dX3_fetch_38 (by decide) (by decide) kF_3_7) (
  sc_tc (sc_s_aload_n dX3_fetch_41 rfl) (
  sc_tc (sc_s_get dX3_fetch_42 (by decide) (by decide) kF_3_85) (
  sc_tc (sc_s_iaload dX3_fetch_45) (
  sc_tc (sc_s_goto dX3_fetch_46 (by decide)) (
  sc_tc (sc_s_bipush dX3_fetch_49 (by decide)) (
  sc_tc (sc_s_iastore dX3_fetch_51) (
  sc_tc (sc_s_aload_n dX3_fetch_52 rfl) (
  sc_tc (sc_s_get dX3_fetch_53 (by decide) (by decide) kF_3_44) (
  sc_tc (sc_s_iconst dX3_fetch_56 (by decide)) (
  sc_tc (sc_s_iload_n dX3_fetch_57 rfl) (
  sc_tc (sc_s_if_eq dX3_fetch_58 (by decide)) (
  sc_tc (sc_s_aload_n dX3_fetch_61 rfl) (
  sc_tc (sc_s_get dX3_fetch_62 (by decide) (by decide) kF_3_13) (
  sc_tc (sc_s_aload_n dX3_fetch_65 rfl) (
  sc_tc (sc_s_get dX3_fetch_66 (by decide) (by decide) kF_3_85) (
  sc_tc (sc_s_iaload dX3_fetch_69) (
  sc_tc (sc_s_goto dX3_fetch_70 (by decide)) (
  sc_tc (sc_s_iconst dX3_fetch_73 (by decide)) (
  sc_tc (sc_s_iastore dX3_fetch_74) (
  sc_tc (sc_s_aload_n dX3_fetch_75 rfl) (
  sc_tc (sc_s_get dX3_fetch_76 (by decide) (by decide) kF_3_47) (
  sc_tc (sc_s_iconst dX3_fetch_79 (by decide)) (
  sc_tc (sc_s_iload_n dX3_fetch_80 rfl) (
  sc_tc (sc_s_if_eq dX3_fetch_81 (by decide)) (
  sc_tc (sc_s_aload_n dX3_fetch_84 rfl) (
  sc_tc (sc_s_get dX3_fetch_85 (by decide) (by decide) kF_3_16) (
  sc_tc (sc_s_aload_n dX3_fetch_88 rfl) (
  sc_tc (sc_s_get dX3_fetch_89 (by decide) (by decide) kF_3_85) (
  sc_tc (sc_s_iaload dX3_fetch_92) (
  sc_tc (sc_s_goto dX3_fetch_93 (by decide)) (
  sc_tc (sc_s_iconst dX3_fetch_96 (by decide)) (
  sc_tc (sc_s_iastore dX3_fetch_97) (
  sc_tc (sc_s_aload_n dX3_fetch_98 rfl) (
  sc_tc (sc_s_get dX3_fetch_99 (by decide) (by decide) kF_3_50) (
  sc_tc (sc_s_iconst dX3_fetch_102 (by decide)) (
  sc_tc (sc_s_iload_n dX3_fetch_103 rfl) (
  sc_tc (sc_s_if_eq dX3_fetch_104 (by decide)) (
  sc_tc (sc_s_aload_n dX3_fetch_107 rfl) (
  sc_tc (sc_s_get dX3_fetch_108 (by decide) (by decide) kF_3_19) (
  sc_tc (sc_s_aload_n dX3_fetch_111 rfl) (
  sc_tc (sc_s_get dX3_fetch_112 (by decide) (by decide) kF_3_85) (
  sc_tc (sc_s_iaload dX3_fetch_115) (
  sc_tc (sc_s_goto dX3_fetch_116 (by decide)) (
  sc_tc (sc_s_iconst dX3_fetch_119 (by decide)) (
  sc_tc (sc_s_iastore dX3_fetch_120) (
  sc_tc (sc_s_aload_n dX3_fetch_121 rfl) (
  sc_tc (sc_s_get dX3_fetch_122 (by decide) (by decide) kF_3_53) (
  sc_tc (sc_s_iconst dX3_fetch_125 (by decide)) (
  sc_tc (sc_s_iload_n dX3_fetch_126 rfl) (
  sc_tc (sc_s_if_eq dX3_fetch_127 (by decide)) (
  sc_tc (sc_s_aload_n dX3_fetch_130 rfl) (
  sc_tc (sc_s_get dX3_fetch_131 (by decide) (by decide) kF_3_22) (
  sc_tc (sc_s_aload_n dX3_fetch_134 rfl) (
  sc_tc (sc_s_get dX3_fetch_135 (by decide) (by decide) kF_3_85) (
  sc_tc (sc_s_iaload dX3_fetch_138) (
  sc_tc (sc_s_goto dX3_fetch_139 (by decide)) (
  sc_tc (sc_s_iconst dX3_fetch_142 (by decide)) (
  sc_tc (sc_s_iastore dX3_fetch_143) (
  sc_tc (sc_s_aload_n dX3_fetch_144 rfl) (
  sc_tc (sc_s_get dX3_fetch_145 (by decide) (by decide) kF_3_65) (
  sc_tc (sc_s_iconst dX3_fetch_148 (by decide)) (
  sc_tc (sc_s_iload_n dX3_fetch_149 rfl) (
  sc_tc (sc_s_if_eq dX3_fetch_150 (by decide)) (
  sc_tc (sc_s_iconst dX3_fetch_153 (by decide)) (
  sc_tc (sc_s_goto dX3_fetch_154 (by decide)) (
  sc_tc (sc_s_iconst dX3_fetch_157 (by decide)) (
  sc_tc (sc_s_iastore dX3_fetch_158) (
  sc_tc (sc_s_aload_n dX3_fetch_159 rfl) (
  sc_tc (sc_s_get dX3_fetch_160 (by decide) (by decide) kF_3_41) (
  sc_tc (sc_s_iconst dX3_fetch_163 (by decide)) (
  sc_tc (sc_s_iaload dX3_fetch_164) (
  sc_tc (sc_s_istore_n dX3_fetch_165 rfl (by decide)) (
  sc_tc (sc_s_iload_n dX3_fetch_166 rfl) (
  sc_tc (sc_s_bipush dX3_fetch_167 (by decide)) (
  sc_tc (sc_s_icmp_eq dX3_fetch_169 (by decide)) (
  sc_tc (sc_s_iload_n dX3_fetch_172 rfl) (
  sc_tc (sc_s_bipush dX3_fetch_173 (by decide)) (
  sc_tc (sc_s_icmp_eq dX3_fetch_175 (by decide)) (
  sc_tc (sc_s_iload_n dX3_fetch_178 rfl) (
  sc_tc (sc_s_bipush dX3_fetch_179 (by decide)) (
  sc_tc (sc_s_icmp_ne dX3_fetch_181 (by decide)) (
  sc_tc (sc_s_aload_n dX3_fetch_184 rfl) (
  sc_tc (sc_s_get dX3_fetch_185 (by decide) (by decide) kF_3_31) (
  sc_tc (sc_s_aload_n dX3_fetch_188 rfl) (
  sc_tc (sc_s_get dX3_fetch_189 (by decide) (by decide) kF_3_85) (
  sc_tc (sc_s_bipush dX3_fetch_192 (by decide)) (
  sc_tc (sc_s_iand dX3_fetch_194) (
  sc_tc (sc_s_iaload dX3_fetch_195) (
  sc_tc (sc_s_iconst dX3_fetch_196 (by decide)) (
  sc_tc (sc_s_icmp_le dX3_fetch_197 (by decide)) (
  sc_tc (sc_s_iconst dX3_fetch_200 (by decide)) (
  sc_tc (sc_s_goto dX3_fetch_201 (by decide)) (
  sc_tc (sc_s_iconst dX3_fetch_204 (by decide)) (
  sc_tc (sc_s_istore_n dX3_fetch_205 rfl (by decide)) (
  sc_tc (sc_s_aload_n dX3_fetch_206 rfl) (
  sc_tc (sc_s_iload_n dX3_fetch_207 rfl) (
  sc_tc (sc_s_if_eq dX3_fetch_208 (by decide)) (
  sc_tc (sc_s_aload_n dX3_fetch_211 rfl) (
  sc_tc (sc_s_get dX3_fetch_212 (by decide) (by decide) kF_3_85) (
  sc_tc (sc_s_aload_n dX3_fetch_215 rfl) (
  sc_tc (sc_s_get dX3_fetch_216 (by decide) (by decide) kF_3_53) (
  sc_tc (sc_s_iconst dX3_fetch_219 (by decide)) (
  sc_tc (sc_s_iaload dX3_fetch_220) (
  sc_tc (sc_s_iadd dX3_fetch_221) (
  sc_tc (sc_s_goto dX3_fetch_222 (by decide)) (
  sc_tc (sc_s_aload_n dX3_fetch_225 rfl) (
  sc_tc (sc_s_get dX3_fetch_226 (by decide) (by decide) kF_3_85) (
  sc_tc (sc_s_iconst dX3_fetch_229 (by decide)) (
  sc_tc (sc_s_iadd dX3_fetch_230) (
  sc_tc (sc_s_putI dX3_fetch_231 (Or.inr (Or.inr rfl)) (by decide) rfl rfl (by decide +kernel) kF_3_85) (
  sc_tc (sc_s_aload_n dX3_fetch_234 rfl) (
  sc_tc (sc_s_get dX3_fetch_235 (by decide) (by decide) kF_3_56) (
  sc_tc (sc_s_iconst dX3_fetch_238 (by decide)) (
  sc_tc (sc_s_aload_n dX3_fetch_239 rfl) (
  sc_tc (sc_s_get dX3_fetch_240 (by decide) (by decide) kF_3_85) (
  sc_tc (sc_s_iastore dX3_fetch_243) (
  sc_tc (sc_s_retV dX3_fetch_244 rfl) ( trivial)))))))))))))))))))))))))))))))))))))))))))))))))))))))))))))))))))))))))))))))))))))))))))))))))))))))))))))))))))))))))))))))))))))))))))))
set_option maxRecDepth 100000 in
set_option maxHeartbeats 4000000 in
theorem ts_X3_cycle : sc_TS yX3_cycle cX3_cycle 2 none st_X3_cycle :=
  sc_tc (sc_s_aload_n dX3_cycle_0 rfl) (
  sc_tc (sc_s_dup dX3_cycle_1) (
  sc_tc (sc_s_get dX3_cycle_2 (by decide) (by decide) kF_3_145) (
  sc_tc (sc_s_iconst dX3_cycle_5 (by decide)) (
  sc_tc (sc_s_iadd dX3_cycle_6) (
  sc_tc (sc_s_putI dX3_cycle_7 (Or.inr (Or.inr rfl)) (by decide) rfl rfl (by decide +kernel) kF_3_145) (
  sc_tc (sc_s_aload_n dX3_cycle_10 rfl) (
  sc_tc (sc_s_get dX3_cycle_11 (by decide) (by decide) kF_3_34) (
  sc_tc (sc_s_iconst dX3_cycle_14 (by decide)) (
  sc_tc (sc_s_baload dX3_cycle_15) (
  sc_tc (sc_s_if_eq dX3_cycle_16 (by decide)) (
  sc_tc (sc_s_aload_n dX3_cycle_19 rfl) (
  sc_tc (sc_s_get dX3_cycle_20 (by decide) (by decide) kF_3_41) (
  sc_tc (sc_s_iconst dX3_cycle_23 (by decide)) (
  sc_tc (sc_s_iaload dX3_cycle_24) (
  sc_tc (sc_s_bipush dX3_cycle_25 (by decide)) (
  sc_tc (sc_s_icmp_ne dX3_cycle_27 (by decide)) (
  sc_tc (sc_s_aload_n dX3_cycle_30 rfl) (
  sc_tc (sc_s_get dX3_cycle_31 (by decide) (by decide) kF_3_65) (
  sc_tc (sc_s_iconst dX3_cycle_34 (by decide)) (
  sc_tc (sc_s_iaload dX3_cycle_35) (
  sc_tc (sc_s_if_ne dX3_cycle_36 (by decide)) (
  sc_tc (sc_s_aload_n dX3_cycle_39 rfl) (
  sc_tc (sc_s_get dX3_cycle_40 (by decide) (by decide) kF_3_44) (
  sc_tc (sc_s_iconst dX3_cycle_43 (by decide)) (
  sc_tc (sc_s_iaload dX3_cycle_44) (
  sc_tc (sc_s_goto dX3_cycle_45 (by decide)) (
  sc_tc (sc_s_iconst dX3_cycle_48 (by decide)) (
  sc_tc (sc_s_istore_n dX3_cycle_49 rfl (by decide)) (
  sc_tc (sc_s_aload_n dX3_cycle_50 rfl) (
  sc_tc (sc_s_inv dX3_cycle_51 mo_57 (by decide) rfl kM_3_148 kI_57 kL_57) (
  sc_tc (sc_s_if_eq dX3_cycle_54 (by decide)) (
  sc_tc (sc_s_retV dX3_cycle_57 rfl) (
  sc_tc (sc_s_aload_n dX3_cycle_58 rfl) (
  sc_tc (sc_s_inv dX3_cycle_59 mo_58 (by decide) rfl kM_3_152 kI_58 kL_58) (
  sc_tc (sc_s_aload_n dX3_cycle_62 rfl) (
  sc_tc (sc_s_iload_n dX3_cycle_63 rfl) (
  sc_tc (sc_s_inv dX3_cycle_64 mo_62 (by decide) rfl kM_3_155 kI_62 kL_62) (
  sc_tc (sc_s_aload_n dX3_cycle_67 rfl) (
  sc_tc (sc_s_get dX3_cycle_68 (by decide) (by decide) kF_3_34) (
  sc_tc (sc_s_iconst dX3_cycle_71 (by decide)) (
  sc_tc (sc_s_baload dX3_cycle_72) (
  sc_tc (sc_s_if_ne dX3_cycle_73 (by decide)) (
  sc_tc (sc_s_aload_n dX3_cycle_76 rfl) (
  sc_tc (sc_s_get dX3_cycle_77 (by decide) (by decide) kF_3_34) (
  sc_tc (sc_s_iconst dX3_cycle_80 (by decide)) (
  sc_tc (sc_s_baload dX3_cycle_81) (
  sc_tc (sc_s_if_eq dX3_cycle_82 (by decide)) (
  sc_tc (sc_s_aload_n dX3_cycle_85 rfl) (
  sc_tc (sc_s_iconst dX3_cycle_86 (by decide)) (
  sc_tc (sc_s_inv dX3_cycle_87 mo_56 (by decide) rfl kM_3_114 kI_56 kL_56) (
  sc_tc (sc_s_aload_n dX3_cycle_90 rfl) (
  sc_tc (sc_s_aload_n dX3_cycle_91 rfl) (
  sc_tc (sc_s_get dX3_cycle_92 (by decide) (by decide) kF_3_41) (
  sc_tc (sc_s_iconst dX3_cycle_95 (by decide)) (
  sc_tc (sc_s_iaload dX3_cycle_96) (
  sc_tc (sc_s_bipush dX3_cycle_97 (by decide)) (
  sc_tc (sc_s_icmp_ne dX3_cycle_99 (by decide)) (
  sc_tc (sc_s_iconst dX3_cycle_102 (by decide)) (
  sc_tc (sc_s_goto dX3_cycle_103 (by decide)) (
  sc_tc (sc_s_aload_n dX3_cycle_106 rfl) (
  sc_tc (sc_s_get dX3_cycle_107 (by decide) (by decide) kF_3_41) (
  sc_tc (sc_s_iconst dX3_cycle_110 (by decide)) (
  sc_tc (sc_s_iaload dX3_cycle_111) (
  sc_tc (sc_s_bipush dX3_cycle_112 (by decide)) (
  sc_tc (sc_s_icmp_ne dX3_cycle_114 (by decide)) (
  sc_tc (sc_s_bipush dX3_cycle_117 (by decide)) (
  sc_tc (sc_s_goto dX3_cycle_119 (by decide)) (
  sc_tc (sc_s_iconst dX3_cycle_122 (by decide)) (
  sc_tc (sc_s_putI dX3_cycle_123 (Or.inr (Or.inr rfl)) (by decide) rfl rfl (by decide +kernel) kF_3_135) (
  sc_tc (sc_s_aload_n dX3_cycle_126 rfl) (
  sc_tc (sc_s_get dX3_cycle_127 (by decide) (by decide) kF_3_34) (
  sc_tc (sc_s_iconst dX3_cycle_130 (by decide)) (
  sc_tc (sc_s_baload dX3_cycle_131) (
  sc_tc (sc_s_if_ne dX3_cycle_132 (by decide)) (
  sc_tc (sc_s_aload_n dX3_cycle_135 rfl) (
  sc_tc (sc_s_get dX3_cycle_136 (by decide) (by decide) kF_3_34) (
  sc_tc (sc_s_iconst dX3_cycle_139 (by decide)) (
  sc_tc (sc_s_baload dX3_cycle_140) (
  sc_tc (sc_s_if_eq dX3_cycle_141 (by decide)) (
  sc_tc (sc_s_aload_n dX3_cycle_144 rfl) (
  sc_tc (sc_s_iconst dX3_cycle_145 (by decide)) (
  sc_tc (sc_s_inv dX3_cycle_146 mo_56 (by decide) rfl kM_3_114 kI_56 kL_56) (
  sc_tc (sc_s_aload_n dX3_cycle_149 rfl) (
  sc_tc (sc_s_get dX3_cycle_150 (by decide) (by decide) kF_3_34) (
  sc_tc (sc_s_iconst dX3_cycle_153 (by decide)) (
  sc_tc (sc_s_baload dX3_cycle_154) (
  sc_tc (sc_s_if_ne dX3_cycle_155 (by decide)) (
  sc_tc (sc_s_aload_n dX3_cycle_158 rfl) (
  sc_tc (sc_s_inv dX3_cycle_159 mo_63 (by decide) rfl kM_3_158 kI_63 kL_63) (
  sc_tc (sc_s_retV dX3_cycle_162 rfl) ( trivial)))))))))))))))))))))))))))))))))))))))))))))))))))))))))))))))))))))))))))))))))))))))))))
set_option maxRecDepth 100000 in
set_option maxHeartbeats 4000000 in
theorem ts_X3_cycles : sc_TS yX3_cycles cX3_cycles 4 (some .int) st_X3_cycles :=
  sc_tc (sc_s_aload_n dX3_cycles_0 rfl) (
  sc_tc (sc_s_iload_n dX3_cycles_1 rfl) (
  sc_tc (sc_s_iconst dX3_cycles_2 (by decide)) (
  sc_tc (sc_s_sipush dX3_cycles_3 (by decide)) (
  sc_tc (sc_s_inv dX3_cycles_6 mo_43 (by decide) rfl kM_3_75 kI_43 kL_43) (
  sc_tc (sc_s_if_eq dX3_cycles_9 (by decide)) (
  sc_tc (sc_s_iconst dX3_cycles_12 (by decide)) (
  sc_tc (sc_s_retI dX3_cycles_13 rfl) (
  sc_tc (sc_s_aload_n dX3_cycles_14 rfl) (
  sc_tc (sc_s_get dX3_cycles_15 (by decide) (by decide) kF_3_108) (
  sc_tc (sc_s_istore_n dX3_cycles_18 rfl (by decide)) (
  sc_tc (sc_s_iconst dX3_cycles_19 (by decide)) (
  sc_tc (sc_s_istore_n dX3_cycles_20 rfl (by decide)) (
  sc_tc (sc_s_iload_n dX3_cycles_21 rfl) (
  sc_tc (sc_s_iload_n dX3_cycles_22 rfl) (
  sc_tc (sc_s_icmp_ge dX3_cycles_23 (by decide)) (
  sc_tc (sc_s_aload_n dX3_cycles_26 rfl) (
  sc_tc (sc_s_get dX3_cycles_27 (by decide) (by decide) kF_3_88) (
  sc_tc (sc_s_if_ne dX3_cycles_30 (by decide)) (
  sc_tc (sc_s_aload_n dX3_cycles_33 rfl) (
  sc_tc (sc_s_inv dX3_cycles_34 mo_64 (by decide) rfl kM_3_161 kI_64 kL_64) (
  sc_tc (sc_s_iinc dX3_cycles_37 (by decide) (by decide)) (
  sc_tc (sc_s_goto dX3_cycles_40 (by decide)) (
  sc_tc (sc_s_aload_n dX3_cycles_43 rfl) (
  sc_tc (sc_s_get dX3_cycles_44 (by decide) (by decide) kF_3_108) (
  sc_tc (sc_s_iload_n dX3_cycles_47 rfl) (
  sc_tc (sc_s_isub dX3_cycles_48) (
  sc_tc (sc_s_retI dX3_cycles_49 rfl) ( trivial))))))))))))))))))))))))))))
set_option maxRecDepth 100000 in
set_option maxHeartbeats 4000000 in
theorem ts_X3_stage : sc_TS yX3_stage cX3_stage 2 (some .int) st_X3_stage :=
  sc_tc (sc_s_aload_n dX3_stage_0 rfl) (
  sc_tc (sc_s_iload_n dX3_stage_1 rfl) (
  sc_tc (sc_s_iconst dX3_stage_2 (by decide)) (
  sc_tc (sc_s_iconst dX3_stage_3 (by decide)) (
  sc_tc (sc_s_inv dX3_stage_4 mo_43 (by decide) rfl kM_3_75 kI_43 kL_43) (
  sc_tc (sc_s_if_eq dX3_stage_7 (by decide)) (
  sc_tc (sc_s_iconst dX3_stage_10 (by decide)) (
  sc_tc (sc_s_retI dX3_stage_11 rfl) (
  sc_tc (sc_s_aload_n dX3_stage_12 rfl) (
  sc_tc (sc_s_get dX3_stage_13 (by decide) (by decide) kF_3_34) (
  sc_tc (sc_s_iload_n dX3_stage_16 rfl) (
  sc_tc (sc_s_baload dX3_stage_17) (
  sc_tc (sc_s_if_eq dX3_stage_18 (by decide)) (
  sc_tc (sc_s_aload_n dX3_stage_21 rfl) (
  sc_tc (sc_s_get dX3_stage_22 (by decide) (by decide) kF_3_38) (
  sc_tc (sc_s_iload_n dX3_stage_25 rfl) (
  sc_tc (sc_s_iaload dX3_stage_26) (
  sc_tc (sc_s_goto dX3_stage_27 (by decide)) (
  sc_tc (sc_s_iconst dX3_stage_30 (by decide)) (
  sc_tc (sc_s_retI dX3_stage_31 rfl) ( trivial))))))))))))))))))))
set_option maxRecDepth 100000 in
set_option maxHeartbeats 4000000 in
theorem ts_X3_counter : sc_TS yX3_counter cX3_counter 2 (some .int) st_X3_counter :=
  sc_tc (sc_s_aload_n dX3_counter_0 rfl) (
  sc_tc (sc_s_iload_n dX3_counter_1 rfl) (
  sc_tc (sc_s_iconst dX3_counter_2 (by decide)) (
  sc_tc (sc_s_bipush dX3_counter_3 (by decide)) (
  sc_tc (sc_s_inv dX3_counter_5 mo_43 (by decide) rfl kM_3_75 kI_43 kL_43) (
  sc_tc (sc_s_if_eq dX3_counter_8 (by decide)) (
  sc_tc (sc_s_iconst dX3_counter_11 (by decide)) (
  sc_tc (sc_s_goto dX3_counter_12 (by decide)) (
  sc_tc (sc_s_aload_n dX3_counter_15 rfl) (
  sc_tc (sc_s_get dX3_counter_16 (by decide) (by decide) kF_3_31) (
  sc_tc (sc_s_iload_n dX3_counter_19 rfl) (
  sc_tc (sc_s_iaload dX3_counter_20) (
  sc_tc (sc_s_retI dX3_counter_21 rfl) ( trivial)))))))))))))
set_option maxRecDepth 100000 in
set_option maxHeartbeats 4000000 in
theorem ts_X3_retired : sc_TS yX3_retired cX3_retired 2 (some .int) st_X3_retired :=
  sc_tc (sc_s_aload_n dX3_retired_0 rfl) (
  sc_tc (sc_s_iload_n dX3_retired_1 rfl) (
  sc_tc (sc_s_iconst dX3_retired_2 (by decide)) (
  sc_tc (sc_s_aload_n dX3_retired_3 rfl) (
  sc_tc (sc_s_get dX3_retired_4 (by decide) (by decide) kF_3_111) (
  sc_tc (sc_s_iconst dX3_retired_7 (by decide)) (
  sc_tc (sc_s_isub dX3_retired_8) (
  sc_tc (sc_s_inv dX3_retired_9 mo_43 (by decide) rfl kM_3_75 kI_43 kL_43) (
  sc_tc (sc_s_if_eq dX3_retired_12 (by decide)) (
  sc_tc (sc_s_iconst dX3_retired_15 (by decide)) (
  sc_tc (sc_s_goto dX3_retired_16 (by decide)) (
  sc_tc (sc_s_aload_n dX3_retired_19 rfl) (
  sc_tc (sc_s_get dX3_retired_20 (by decide) (by decide) kF_3_68) (
  sc_tc (sc_s_iload_n dX3_retired_23 rfl) (
  sc_tc (sc_s_iaload dX3_retired_24) (
  sc_tc (sc_s_retI dX3_retired_25 rfl) ( trivial))))))))))))))))
set_option maxRecDepth 100000 in
set_option maxHeartbeats 4000000 in
theorem ts_X3_count : sc_TS yX3_count cX3_count 2 (some .int) st_X3_count :=
  sc_tc (sc_s_aload_n dX3_count_0 rfl) (
  sc_tc (sc_s_iload_n dX3_count_1 rfl) (
  sc_tc (sc_s_iconst dX3_count_2 (by decide)) (
  sc_tc (sc_s_bipush dX3_count_3 (by decide)) (
  sc_tc (sc_s_inv dX3_count_5 mo_43 (by decide) rfl kM_3_75 kI_43 kL_43) (
  sc_tc (sc_s_if_eq dX3_count_8 (by decide)) (
  sc_tc (sc_s_iconst dX3_count_11 (by decide)) (
  sc_tc (sc_s_retI dX3_count_12 rfl) (
  sc_tc (sc_s_iload_n dX3_count_13 rfl) (
  sc_tc (sc_s_sw dX3_count_14 (by decide) (by decide) (by decide +kernel)) (
  sc_tc (sc_s_aload_n dX3_count_60 rfl) (
  sc_tc (sc_s_get dX3_count_61 (by decide) (by decide) kF_3_145) (
  sc_tc (sc_s_retI dX3_count_64 rfl) (
  sc_tc (sc_s_aload_n dX3_count_65 rfl) (
  sc_tc (sc_s_get dX3_count_66 (by decide) (by decide) kF_3_108) (
  sc_tc (sc_s_retI dX3_count_69 rfl) (
  sc_tc (sc_s_aload_n dX3_count_70 rfl) (
  sc_tc (sc_s_get dX3_count_71 (by decide) (by decide) kF_3_132) (
  sc_tc (sc_s_retI dX3_count_74 rfl) (
  sc_tc (sc_s_aload_n dX3_count_75 rfl) (
  sc_tc (sc_s_get dX3_count_76 (by decide) (by decide) kF_3_142) (
  sc_tc (sc_s_retI dX3_count_79 rfl) (
  sc_tc (sc_s_aload_n dX3_count_80 rfl) (
  sc_tc (sc_s_get dX3_count_81 (by decide) (by decide) kF_3_95) (
  sc_tc (sc_s_retI dX3_count_84 rfl) (
  sc_tc (sc_s_aload_n dX3_count_85 rfl) (
  sc_tc (sc_s_get dX3_count_86 (by decide) (by decide) kF_3_85) (
  sc_tc (sc_s_retI dX3_count_89 rfl) (
  sc_tc (sc_s_aload_n dX3_count_90 rfl) (
  sc_tc (sc_s_get dX3_count_91 (by decide) (by decide) kF_3_98) (
  sc_tc (sc_s_retI dX3_count_94 rfl) (
  sc_tc (sc_s_aload_n dX3_count_95 rfl) (
  sc_tc (sc_s_get dX3_count_96 (by decide) (by decide) kF_3_101) (
  sc_tc (sc_s_retI dX3_count_99 rfl) (
  sc_tc (sc_s_aload_n dX3_count_100 rfl) (
  sc_tc (sc_s_get dX3_count_101 (by decide) (by decide) kF_3_88) (
  sc_tc (sc_s_if_eq dX3_count_104 (by decide)) (
  sc_tc (sc_s_iconst dX3_count_107 (by decide)) (
  sc_tc (sc_s_goto dX3_count_108 (by decide)) (
  sc_tc (sc_s_iconst dX3_count_111 (by decide)) (
  sc_tc (sc_s_retI dX3_count_112 rfl) ( trivial)))))))))))))))))))))))))))))))))))))))))
set_option maxRecDepth 100000 in
set_option maxHeartbeats 4000000 in
theorem ts_J9_max_7cf53 : sc_TS yJ9_max_7cf53 cJ9_max_7cf53 2 (some .int) st_J9_max_7cf53 :=
  sc_tc (sc_s_iload_n dJ9_max_7cf53_0 rfl) (
  sc_tc (sc_s_iload_n dJ9_max_7cf53_1 rfl) (
  sc_tc (sc_s_icmp_lt dJ9_max_7cf53_2 (by decide)) (
  sc_tc (sc_s_iload_n dJ9_max_7cf53_5 rfl) (
  sc_tc (sc_s_goto dJ9_max_7cf53_6 (by decide)) (
  sc_tc (sc_s_iload_n dJ9_max_7cf53_9 rfl) (
  sc_tc (sc_s_retI dJ9_max_7cf53_10 rfl) ( trivial)))))))
set_option maxRecDepth 100000 in
set_option maxHeartbeats 4000000 in
theorem ts_J9_min_7cf53 : sc_TS yJ9_min_7cf53 cJ9_min_7cf53 2 (some .int) st_J9_min_7cf53 :=
  sc_tc (sc_s_iload_n dJ9_min_7cf53_0 rfl) (
  sc_tc (sc_s_iload_n dJ9_min_7cf53_1 rfl) (
  sc_tc (sc_s_icmp_gt dJ9_min_7cf53_2 (by decide)) (
  sc_tc (sc_s_iload_n dJ9_min_7cf53_5 rfl) (
  sc_tc (sc_s_goto dJ9_min_7cf53_6 (by decide)) (
  sc_tc (sc_s_iload_n dJ9_min_7cf53_9 rfl) (
  sc_tc (sc_s_retI dJ9_min_7cf53_10 rfl) ( trivial)))))))
noncomputable def sc_t (mid : Nat) : List (Nat × sc_EN) := match mid with
  | 0 => st_X0_does
  | 1 => st_X1_writesD
  | 2 => st_X0_writes
  | 3 => st_X1_isBranch
  | 4 => st_X1_usesT
  | 5 => st_X1_usesS
  | 6 => st_X1_touchesData
  | 7 => st_X1_workCycles
  | 8 => st_X2_checkIndex
  | 9 => st_X2_checkArgument
  | 10 => st_X2_poke
  | 11 => st_X2_peek
  | 12 => st_X2_set
  | 13 => st_X2_register
  | 14 => st_X2_emptyStagesBelow
  | 15 => st_X2_start
  | 16 => st_X2_handler
  | 17 => st_X2_takeFault
  | 18 => st_X2_retire
  | 19 => st_X2_leaveEndsCycle
  | 20 => st_X2_moveOnIfFree
  | 21 => st_X2_passMemory
  | 22 => st_X2_needsLoadAhead
  | 23 => st_X2_handedOn
  | 24 => st_X2_isWord
  | 25 => st_X2_faultOf
  | 26 => st_X2_valueOf
  | 27 => st_X2_goesElsewhere
  | 28 => st_J9_floorMod_7cf53
  | 29 => st_X2_learn
  | 30 => st_X2_target
  | 31 => st_X2_holdAgainstGuess
  | 32 => st_X2_finishWork
  | 33 => st_X2_workInReached
  | 34 => st_X2_guessNext
  | 35 => st_X2_fetchIfFree
  | 36 => st_X2_runCycle
  | 37 => st_X2_cycles
  | 38 => st_X2_stage
  | 39 => st_X2_counter
  | 40 => st_X2_retired
  | 41 => st_X2_count
  | 42 => st_X3_thrown
  | 43 => st_X3_out
  | 44 => st_X3_in
  | 45 => st_X3_put
  | 46 => st_X3_poke
  | 47 => st_X3_peek
  | 48 => st_X3_set
  | 49 => st_X3_register
  | 50 => st_X3_empty
  | 51 => st_X3_start
  | 52 => st_X3_handler
  | 53 => st_X3_writes
  | 54 => st_X3_usesFirst
  | 55 => st_X3_usesSecond
  | 56 => st_X3_move
  | 57 => st_X3_leave
  | 58 => st_X3_remember
  | 59 => st_X3_read
  | 60 => st_X3_reckon
  | 61 => st_X3_work
  | 62 => st_X3_reach
  | 63 => st_X3_fetch
  | 64 => st_X3_cycle
  | 65 => st_X3_cycles
  | 66 => st_X3_stage
  | 67 => st_X3_counter
  | 68 => st_X3_retired
  | 69 => st_X3_count
  | 70 => st_J9_max_7cf53
  | _ => st_J9_min_7cf53
theorem sc_ts : ∀ mid, mid < 72 → sc_TS (sc_y mid) (sc_c mid) (sc_nL mid) (sc_rt mid) (sc_t mid) := fun mid h => match mid, h with
  | 0, _ => ts_X0_does
  | 1, _ => ts_X1_writesD
  | 2, _ => ts_X0_writes
  | 3, _ => ts_X1_isBranch
  | 4, _ => ts_X1_usesT
  | 5, _ => ts_X1_usesS
  | 6, _ => ts_X1_touchesData
  | 7, _ => ts_X1_workCycles
  | 8, _ => ts_X2_checkIndex
  | 9, _ => ts_X2_checkArgument
  | 10, _ => ts_X2_poke
  | 11, _ => ts_X2_peek
  | 12, _ => ts_X2_set
  | 13, _ => ts_X2_register
  | 14, _ => ts_X2_emptyStagesBelow
  | 15, _ => ts_X2_start
  | 16, _ => ts_X2_handler
  | 17, _ => ts_X2_takeFault
  | 18, _ => ts_X2_retire
  | 19, _ => ts_X2_leaveEndsCycle
  | 20, _ => ts_X2_moveOnIfFree
  | 21, _ => ts_X2_passMemory
  | 22, _ => ts_X2_needsLoadAhead
  | 23, _ => ts_X2_handedOn
  | 24, _ => ts_X2_isWord
  | 25, _ => ts_X2_faultOf
  | 26, _ => ts_X2_valueOf
  | 27, _ => ts_X2_goesElsewhere
  | 28, _ => ts_J9_floorMod_7cf53
  | 29, _ => ts_X2_learn
  | 30, _ => ts_X2_target
  | 31, _ => ts_X2_holdAgainstGuess
  | 32, _ => ts_X2_finishWork
  | 33, _ => ts_X2_workInReached
  | 34, _ => ts_X2_guessNext
  | 35, _ => ts_X2_fetchIfFree
  | 36, _ => ts_X2_runCycle
  | 37, _ => ts_X2_cycles
  | 38, _ => ts_X2_stage
  | 39, _ => ts_X2_counter
  | 40, _ => ts_X2_retired
  | 41, _ => ts_X2_count
  | 42, _ => ts_X3_thrown
  | 43, _ => ts_X3_out
  | 44, _ => ts_X3_in
  | 45, _ => ts_X3_put
  | 46, _ => ts_X3_poke
  | 47, _ => ts_X3_peek
  | 48, _ => ts_X3_set
  | 49, _ => ts_X3_register
  | 50, _ => ts_X3_empty
  | 51, _ => ts_X3_start
  | 52, _ => ts_X3_handler
  | 53, _ => ts_X3_writes
  | 54, _ => ts_X3_usesFirst
  | 55, _ => ts_X3_usesSecond
  | 56, _ => ts_X3_move
  | 57, _ => ts_X3_leave
  | 58, _ => ts_X3_remember
  | 59, _ => ts_X3_read
  | 60, _ => ts_X3_reckon
  | 61, _ => ts_X3_work
  | 62, _ => ts_X3_reach
  | 63, _ => ts_X3_fetch
  | 64, _ => ts_X3_cycle
  | 65, _ => ts_X3_cycles
  | 66, _ => ts_X3_stage
  | 67, _ => ts_X3_counter
  | 68, _ => ts_X3_retired
  | 69, _ => ts_X3_count
  | 70, _ => ts_J9_max_7cf53
  | 71, _ => ts_J9_min_7cf53
  | n + 72, h => absurd h (by omega)
theorem sc_pn_ok : ∀ mid, mid < 72 → plainFor (sc_y mid) = true := by decide +kernel
theorem sc_hd0 : ∀ mid, mid < 72 → sc_hd (sc_t mid) = 0 := fun mid h => match mid, h with
  | 0, _ => rfl
  | 1, _ => rfl
  | 2, _ => rfl
  | 3, _ => rfl
  | 4, _ => rfl
  | 5, _ => rfl
  | 6, _ => rfl
  | 7, _ => rfl
  | 8, _ => rfl
  | 9, _ => rfl
  | 10, _ => rfl
  | 11, _ => rfl
  | 12, _ => rfl
  | 13, _ => rfl
  | 14, _ => rfl
  | 15, _ => rfl
  | 16, _ => rfl
  | 17, _ => rfl
  | 18, _ => rfl
  | 19, _ => rfl
  | 20, _ => rfl
  | 21, _ => rfl
  | 22, _ => rfl
  | 23, _ => rfl
  | 24, _ => rfl
  | 25, _ => rfl
  | 26, _ => rfl
  | 27, _ => rfl
  | 28, _ => rfl
  | 29, _ => rfl
  | 30, _ => rfl
  | 31, _ => rfl
  | 32, _ => rfl
  | 33, _ => rfl
  | 34, _ => rfl
  | 35, _ => rfl
  | 36, _ => rfl
  | 37, _ => rfl
  | 38, _ => rfl
  | 39, _ => rfl
  | 40, _ => rfl
  | 41, _ => rfl
  | 42, _ => rfl
  | 43, _ => rfl
  | 44, _ => rfl
  | 45, _ => rfl
  | 46, _ => rfl
  | 47, _ => rfl
  | 48, _ => rfl
  | 49, _ => rfl
  | 50, _ => rfl
  | 51, _ => rfl
  | 52, _ => rfl
  | 53, _ => rfl
  | 54, _ => rfl
  | 55, _ => rfl
  | 56, _ => rfl
  | 57, _ => rfl
  | 58, _ => rfl
  | 59, _ => rfl
  | 60, _ => rfl
  | 61, _ => rfl
  | 62, _ => rfl
  | 63, _ => rfl
  | 64, _ => rfl
  | 65, _ => rfl
  | 66, _ => rfl
  | 67, _ => rfl
  | 68, _ => rfl
  | 69, _ => rfl
  | 70, _ => rfl
  | 71, _ => rfl
  | n + 72, h => absurd h (by omega)
