def mX4_take : ab_M := ((yX4_take, cX4_take, 3, none), ([4, 5], [(0, 0), (0, 1)], [true, false], false, false, 0), (false, 4, 1))
def rX4_take : List ab_R := [(0, .bipush 24, 2, 0, 0, 0, [], none),
  (2, .istore_n 2, 1, 0, 0, 0, [], none),
  (3, .iload_n 2, 1, 0, 0, 0, [], none),
  (4, .ifCond .lt 42, 3, 0, 0, 0, [46], none),
  (7, .aload_n 0, 1, 0, 0, 0, [], none),
  (8, .getfield 9, 3, 4, 0, 0, [], none),
  (11, .sipush 700, 3, 0, 0, 0, [], none),
  (14, .if_icmp .ge 32, 3, 0, 0, 0, [46], none),
  (17, .aload_n 0, 1, 0, 0, 0, [], none),
  (18, .getfield 15, 3, 4, 1, 0, [], none),
  (21, .aload_n 0, 1, 0, 0, 0, [], none),
  (22, .getfield 9, 3, 4, 0, 0, [], none),
  (25, .iload_n 1, 1, 0, 0, 0, [], none),
  (26, .iload_n 2, 1, 0, 0, 0, [], none),
  (27, .ishr, 1, 0, 0, 0, [], none),
  (28, .i2b, 1, 0, 0, 0, [], none),
  (29, .bastore, 1, 0, 0, 0, [], none),
  (30, .aload_n 0, 1, 0, 0, 0, [], none),
  (31, .dup, 1, 0, 0, 0, [], none),
  (32, .getfield 9, 3, 4, 0, 0, [], none),
  (35, .iconst 1, 1, 0, 0, 0, [], none),
  (36, .iadd, 1, 0, 0, 0, [], none),
  (37, .putfield 9, 3, 4, 0, 0, [], none),
  (40, .iinc 2 (-8), 3, 0, 0, 0, [], none),
  (43, .goto (-40), 3, 0, 0, 0, [3], none),
  (46, .return_, 1, 0, 0, 0, [], none)]
set_option maxRecDepth 100000 in
theorem kX4_take : ab_def_ok mX4_take rX4_take := ⟨ab_mok_of 448 100 446 447 (by decide +kernel), [0, 0, 0, 0, 0, 191, 0, 0, 0, 193, 0, 191, 0, 0, 0, 0, 0, 0, 0, 191, 0, 0, 191, 0, 0, 0], by decide +kernel⟩
set_option maxRecDepth 100000 in
theorem vX4_take_0 {x : ab_Cx} {d mc ms : Nat} {Post : Option ab_V → List ab_Ob → Prop} (hx : ab_At x mX4_take d mc ms Post) (a1 : Int) (w0 w1 : ab_Ob) (kc ks : Nat)
    (h : ab_J x 3 [some (ab_O 0), some (ab_I a1), some (ab_I 24)] [] [w0, w1] kc ks) :
    ab_J x 0 [some (ab_O 0), some (ab_I a1), none] [] [w0, w1] kc ks := ab_go hx kX4_take.2 7 [(3, [true, true, true])] 0 h
set_option maxRecDepth 100000 in
theorem vX4_take_3 {x : ab_Cx} {d mc ms : Nat} {Post : Option ab_V → List ab_Ob → Prop} (hx : ab_At x mX4_take d mc ms Post) (l1 l2 : Int) (w0 w1 : ab_Ob) (kc ks : Nat)
    (h : ((l2 < 0 → Post none [w0, w1]) ∧ (¬ l2 < 0 → ((700 ≤ (w0.1 0) → Post none [w0, w1]) ∧ (¬ 700 ≤ (w0.1 0) → ((0 ≤ (w0.1 0) ∧ (w0.1 0) < (w0.2 1).1) ∧ ((-2147483648 ≤ (w0.1 0) + 1 ∧ (w0.1 0) + 1 ≤ 2147483647) ∧ ((-2147483648 ≤ l2 + (-8) ∧ l2 + (-8) ≤ 2147483647) ∧ ab_J x 3 [some (ab_O 0), some (ab_I l1), some (ab_I (l2 + (-8)))] [] [(ab_pf (ab_pa w0 1 (w0.1 0) (ab_i8 (ab_i8 ((Int32.ofInt l1 >>> (Int32.ofInt l2 &&& 31)).toInt)))) 0 ((w0.1 0) + 1)), w1] kc ks)))))))) :
    ab_J x 3 [some (ab_O 0), some (ab_I l1), some (ab_I l2)] [] [w0, w1] kc ks := ab_go hx kX4_take.2 28 [(3, [true, true, true])] 3 h
def mX4_kindAt : ab_M := ((yX4_kindAt, cX4_kindAt, 3, (some .int)), ([4, 5], [(0, 0), (0, 1)], [false, false], false, false, 0), (false, 4, 1))
def rX4_kindAt : List ab_R := [(0, .iload_n 1, 1, 0, 0, 0, [], none),
  (1, .aload_n 0, 1, 0, 0, 0, [], none),
  (2, .getfield 19, 3, 4, 2, 0, [], none),
  (5, .if_icmp .lt 5, 3, 0, 0, 0, [10], none),
  (8, .iconst 1, 1, 0, 0, 0, [], none),
  (9, .ireturn, 1, 0, 0, 0, [], none),
  (10, .aload_n 0, 1, 0, 0, 0, [], none),
  (11, .getfield 15, 3, 4, 1, 0, [], none),
  (14, .iload_n 1, 1, 0, 0, 0, [], none),
  (15, .baload, 1, 0, 0, 0, [], none),
  (16, .istore_n 2, 1, 0, 0, 0, [], none),
  (17, .iload_n 2, 1, 0, 0, 0, [], none),
  (18, .bipush 97, 2, 0, 0, 0, [], none),
  (20, .if_icmp .lt 11, 3, 0, 0, 0, [31], none),
  (23, .iload_n 2, 1, 0, 0, 0, [], none),
  (24, .bipush 122, 2, 0, 0, 0, [], none),
  (26, .if_icmp .gt 5, 3, 0, 0, 0, [31], none),
  (29, .iconst 2, 1, 0, 0, 0, [], none),
  (30, .ireturn, 1, 0, 0, 0, [], none),
  (31, .iload_n 2, 1, 0, 0, 0, [], none),
  (32, .bipush 48, 2, 0, 0, 0, [], none),
  (34, .if_icmp .lt 11, 3, 0, 0, 0, [45], none),
  (37, .iload_n 2, 1, 0, 0, 0, [], none),
  (38, .bipush 57, 2, 0, 0, 0, [], none),
  (40, .if_icmp .gt 5, 3, 0, 0, 0, [45], none),
  (43, .iconst 3, 1, 0, 0, 0, [], none),
  (44, .ireturn, 1, 0, 0, 0, [], none),
  (45, .iload_n 2, 1, 0, 0, 0, [], none),
  (46, .bipush 59, 2, 0, 0, 0, [], none),
  (48, .if_icmp .ne 7, 3, 0, 0, 0, [55], none),
  (51, .iconst 4, 1, 0, 0, 0, [], none),
  (52, .goto 4, 3, 0, 0, 0, [56], none),
  (55, .iconst 0, 1, 0, 0, 0, [], none),
  (56, .ireturn, 1, 0, 0, 0, [], none)]
set_option maxRecDepth 100000 in
theorem kX4_kindAt : ab_def_ok mX4_kindAt rX4_kindAt := ⟨ab_mok_of 479 100 478 3 (by decide +kernel), [0, 0, 194, 0, 0, 0, 0, 193, 0, 0, 0, 0, 0, 0, 0, 0, 0, 0, 0, 0, 0, 0, 0, 0, 0, 0, 0, 0, 0, 0, 0, 0, 0, 0], by decide +kernel⟩
set_option maxRecDepth 100000 in
theorem vX4_kindAt_0 {x : ab_Cx} {d mc ms : Nat} {Post : Option ab_V → List ab_Ob → Prop} (hx : ab_At x mX4_kindAt d mc ms Post) (a1 : Int) (w0 w1 : ab_Ob) (kc ks : Nat)
    (h : ((a1 < (w0.1 2) → ((0 ≤ a1 ∧ a1 < (w0.2 1).1) ∧ ((((w0.2 1).2 a1) < 97 → ((((w0.2 1).2 a1) < 48 → ((¬ ((w0.2 1).2 a1) = 59 → Post (some (ab_I 0)) [w0, w1]) ∧ (((w0.2 1).2 a1) = 59 → Post (some (ab_I 4)) [w0, w1]))) ∧ (¬ ((w0.2 1).2 a1) < 48 → ((57 < ((w0.2 1).2 a1) → ((¬ ((w0.2 1).2 a1) = 59 → Post (some (ab_I 0)) [w0, w1]) ∧ (((w0.2 1).2 a1) = 59 → Post (some (ab_I 4)) [w0, w1]))) ∧ (¬ 57 < ((w0.2 1).2 a1) → Post (some (ab_I 3)) [w0, w1]))))) ∧ (¬ ((w0.2 1).2 a1) < 97 → ((122 < ((w0.2 1).2 a1) → ((((w0.2 1).2 a1) < 48 → ((¬ ((w0.2 1).2 a1) = 59 → Post (some (ab_I 0)) [w0, w1]) ∧ (((w0.2 1).2 a1) = 59 → Post (some (ab_I 4)) [w0, w1]))) ∧ (¬ ((w0.2 1).2 a1) < 48 → ((57 < ((w0.2 1).2 a1) → ((¬ ((w0.2 1).2 a1) = 59 → Post (some (ab_I 0)) [w0, w1]) ∧ (((w0.2 1).2 a1) = 59 → Post (some (ab_I 4)) [w0, w1]))) ∧ (¬ 57 < ((w0.2 1).2 a1) → Post (some (ab_I 3)) [w0, w1]))))) ∧ (¬ 122 < ((w0.2 1).2 a1) → Post (some (ab_I 2)) [w0, w1])))))) ∧ (¬ a1 < (w0.1 2) → Post (some (ab_I 1)) [w0, w1]))) :
    ab_J x 0 [some (ab_O 0), some (ab_I a1), none] [] [w0, w1] kc ks := ab_go hx kX4_kindAt.2 31 [] 0 h
def mX4_numberSaid : ab_M := ((yX4_numberSaid, cX4_numberSaid, 3, (some .int)), ([4, 5], [(0, 0), (0, 1)], [false, false], false, false, 0), (false, 4, 0))
def rX4_numberSaid : List ab_R := [(0, .iconst 0, 1, 0, 0, 0, [], none),
  (1, .istore_n 1, 1, 0, 0, 0, [], none),
  (2, .aload_n 0, 1, 0, 0, 0, [], none),
  (3, .getfield 40, 3, 4, 7, 0, [], none),
  (6, .istore_n 2, 1, 0, 0, 0, [], none),
  (7, .iload_n 2, 1, 0, 0, 0, [], none),
  (8, .aload_n 0, 1, 0, 0, 0, [], none),
  (9, .getfield 43, 3, 4, 8, 0, [], none),
  (12, .if_icmp .ge 24, 3, 0, 0, 0, [36], none),
  (15, .iload_n 1, 1, 0, 0, 0, [], none),
  (16, .bipush 10, 2, 0, 0, 0, [], none),
  (18, .imul, 1, 0, 0, 0, [], none),
  (19, .aload_n 0, 1, 0, 0, 0, [], none),
  (20, .getfield 15, 3, 4, 1, 0, [], none),
  (23, .iload_n 2, 1, 0, 0, 0, [], none),
  (24, .baload, 1, 0, 0, 0, [], none),
  (25, .bipush 48, 2, 0, 0, 0, [], none),
  (27, .isub, 1, 0, 0, 0, [], none),
  (28, .iadd, 1, 0, 0, 0, [], none),
  (29, .istore_n 1, 1, 0, 0, 0, [], none),
  (30, .iinc 2 1, 3, 0, 0, 0, [], none),
  (33, .goto (-26), 3, 0, 0, 0, [7], none),
  (36, .iload_n 1, 1, 0, 0, 0, [], none),
  (37, .ireturn, 1, 0, 0, 0, [], none)]
set_option maxRecDepth 100000 in
theorem kX4_numberSaid : ab_def_ok mX4_numberSaid rX4_numberSaid := ⟨ab_mok_of 483 100 482 4 (by decide +kernel), [0, 0, 0, 199, 0, 0, 0, 201, 0, 0, 0, 0, 0, 193, 0, 0, 0, 0, 0, 0, 0, 0, 0, 0], by decide +kernel⟩
set_option maxRecDepth 100000 in
theorem vX4_numberSaid_0 {x : ab_Cx} {d mc ms : Nat} {Post : Option ab_V → List ab_Ob → Prop} (hx : ab_At x mX4_numberSaid d mc ms Post) (w0 w1 : ab_Ob) (kc ks : Nat)
    (h : ab_J x 7 [some (ab_O 0), some (ab_I 0), some (ab_I (w0.1 7))] [] [w0, w1] kc ks) :
    ab_J x 0 [some (ab_O 0), none, none] [] [w0, w1] kc ks := ab_go hx kX4_numberSaid.2 10 [(7, [true, true, true])] 0 h
set_option maxRecDepth 100000 in
theorem vX4_numberSaid_7 {x : ab_Cx} {d mc ms : Nat} {Post : Option ab_V → List ab_Ob → Prop} (hx : ab_At x mX4_numberSaid d mc ms Post) (l1 l2 : Int) (w0 w1 : ab_Ob) (kc ks : Nat)
    (h : (((w0.1 8) ≤ l2 → Post (some (ab_I l1)) [w0, w1]) ∧ (¬ (w0.1 8) ≤ l2 → ((-2147483648 ≤ l1 * 10 ∧ l1 * 10 ≤ 2147483647) ∧ ((0 ≤ l2 ∧ l2 < (w0.2 1).1) ∧ ((-2147483648 ≤ ((w0.2 1).2 l2) - 48 ∧ ((w0.2 1).2 l2) - 48 ≤ 2147483647) ∧ ((-2147483648 ≤ (l1 * 10) + (((w0.2 1).2 l2) - 48) ∧ (l1 * 10) + (((w0.2 1).2 l2) - 48) ≤ 2147483647) ∧ ((-2147483648 ≤ l2 + 1 ∧ l2 + 1 ≤ 2147483647) ∧ ab_J x 7 [some (ab_O 0), some (ab_I ((l1 * 10) + (((w0.2 1).2 l2) - 48))), some (ab_I (l2 + 1))] [] [w0, w1] kc ks)))))))) :
    ab_J x 7 [some (ab_O 0), some (ab_I l1), some (ab_I l2)] [] [w0, w1] kc ks := ab_go hx kX4_numberSaid.2 22 [(7, [true, true, true])] 7 h
def mX4_advance : ab_M := ((yX4_advance, cX4_advance, 2, none), ([4, 5], [(0, 0), (0, 1)], [true, false], false, false, 0), (false, 4, 0))
def rX4_advance : List ab_R := [(0, .aload_n 0, 1, 0, 0, 0, [], none),
  (1, .aload_n 0, 1, 0, 0, 0, [], none),
  (2, .getfield 43, 3, 4, 8, 0, [], none),
  (5, .putfield 40, 3, 4, 7, 0, [], none),
  (8, .aload_n 0, 1, 0, 0, 0, [], none),
  (9, .getfield 40, 3, 4, 7, 0, [], none),
  (12, .aload_n 0, 1, 0, 0, 0, [], none),
  (13, .getfield 19, 3, 4, 2, 0, [], none),
  (16, .if_icmp .ge 30, 3, 0, 0, 0, [46], none),
  (19, .aload_n 0, 1, 0, 0, 0, [], none),
  (20, .getfield 15, 3, 4, 1, 0, [], none),
  (23, .aload_n 0, 1, 0, 0, 0, [], none),
  (24, .getfield 40, 3, 4, 7, 0, [], none),
  (27, .baload, 1, 0, 0, 0, [], none),
  (28, .bipush 32, 2, 0, 0, 0, [], none),
  (30, .if_icmp .ne 16, 3, 0, 0, 0, [46], none),
  (33, .aload_n 0, 1, 0, 0, 0, [], none),
  (34, .dup, 1, 0, 0, 0, [], none),
  (35, .getfield 40, 3, 4, 7, 0, [], none),
  (38, .iconst 1, 1, 0, 0, 0, [], none),
  (39, .iadd, 1, 0, 0, 0, [], none),
  (40, .putfield 40, 3, 4, 7, 0, [], none),
  (43, .goto (-35), 3, 0, 0, 0, [8], none),
  (46, .aload_n 0, 1, 0, 0, 0, [], none),
  (47, .aload_n 0, 1, 0, 0, 0, [], none),
  (48, .aload_n 0, 1, 0, 0, 0, [], none),
  (49, .getfield 40, 3, 4, 7, 0, [], none),
  (52, .invokevirtual 146, 3, 0, 0, 0, [], some mX4_kindAt),
  (55, .putfield 37, 3, 4, 6, 0, [], none),
  (58, .aload_n 0, 1, 0, 0, 0, [], none),
  (59, .aload_n 0, 1, 0, 0, 0, [], none),
  (60, .getfield 37, 3, 4, 6, 0, [], none),
  (63, .iconst 1, 1, 0, 0, 0, [], none),
  (64, .if_icmp .ne 10, 3, 0, 0, 0, [74], none),
  (67, .aload_n 0, 1, 0, 0, 0, [], none),
  (68, .getfield 40, 3, 4, 7, 0, [], none),
  (71, .goto 9, 3, 0, 0, 0, [80], none),
  (74, .aload_n 0, 1, 0, 0, 0, [], none),
  (75, .getfield 40, 3, 4, 7, 0, [], none),
  (78, .iconst 1, 1, 0, 0, 0, [], none),
  (79, .iadd, 1, 0, 0, 0, [], none),
  (80, .putfield 43, 3, 4, 8, 0, [], none),
  (83, .aload_n 0, 1, 0, 0, 0, [], none),
  (84, .getfield 37, 3, 4, 6, 0, [], none),
  (87, .iconst 2, 1, 0, 0, 0, [], none),
  (88, .if_icmp .eq 11, 3, 0, 0, 0, [99], none),
  (91, .aload_n 0, 1, 0, 0, 0, [], none),
  (92, .getfield 37, 3, 4, 6, 0, [], none),
  (95, .iconst 3, 1, 0, 0, 0, [], none),
  (96, .if_icmp .ne 7, 3, 0, 0, 0, [103], none),
  (99, .iconst 1, 1, 0, 0, 0, [], none),
  (100, .goto 4, 3, 0, 0, 0, [104], none),
  (103, .iconst 0, 1, 0, 0, 0, [], none),
  (104, .istore_n 1, 1, 0, 0, 0, [], none),
  (105, .iload_n 1, 1, 0, 0, 0, [], none),
  (106, .ifCond .eq 42, 3, 0, 0, 0, [148], none),
  (109, .aload_n 0, 1, 0, 0, 0, [], none),
  (110, .getfield 43, 3, 4, 8, 0, [], none),
  (113, .aload_n 0, 1, 0, 0, 0, [], none),
  (114, .getfield 19, 3, 4, 2, 0, [], none),
  (117, .if_icmp .ge 31, 3, 0, 0, 0, [148], none),
  (120, .aload_n 0, 1, 0, 0, 0, [], none),
  (121, .aload_n 0, 1, 0, 0, 0, [], none),
  (122, .getfield 43, 3, 4, 8, 0, [], none),
  (125, .invokevirtual 146, 3, 0, 0, 0, [], some mX4_kindAt),
  (128, .aload_n 0, 1, 0, 0, 0, [], none),
  (129, .getfield 37, 3, 4, 6, 0, [], none),
  (132, .if_icmp .ne 16, 3, 0, 0, 0, [148], none),
  (135, .aload_n 0, 1, 0, 0, 0, [], none),
  (136, .dup, 1, 0, 0, 0, [], none),
  (137, .getfield 43, 3, 4, 8, 0, [], none),
  (140, .iconst 1, 1, 0, 0, 0, [], none),
  (141, .iadd, 1, 0, 0, 0, [], none),
  (142, .putfield 43, 3, 4, 8, 0, [], none),
  (145, .goto (-40), 3, 0, 0, 0, [105], none),
  (148, .aload_n 0, 1, 0, 0, 0, [], none),
  (149, .getfield 37, 3, 4, 6, 0, [], none),
  (152, .iconst 2, 1, 0, 0, 0, [], none),
  (153, .if_icmp .ne 17, 3, 0, 0, 0, [170], none),
  (156, .aload_n 0, 1, 0, 0, 0, [], none),
  (157, .getfield 43, 3, 4, 8, 0, [], none),
  (160, .aload_n 0, 1, 0, 0, 0, [], none),
  (161, .getfield 40, 3, 4, 7, 0, [], none),
  (164, .isub, 1, 0, 0, 0, [], none),
  (165, .bipush 6, 2, 0, 0, 0, [], none),
  (167, .if_icmp .gt 24, 3, 0, 0, 0, [191], none),
  (170, .aload_n 0, 1, 0, 0, 0, [], none),
  (171, .getfield 37, 3, 4, 6, 0, [], none),
  (174, .iconst 3, 1, 0, 0, 0, [], none),
  (175, .if_icmp .ne 21, 3, 0, 0, 0, [196], none),
  (178, .aload_n 0, 1, 0, 0, 0, [], none),
  (179, .getfield 43, 3, 4, 8, 0, [], none),
  (182, .aload_n 0, 1, 0, 0, 0, [], none),
  (183, .getfield 40, 3, 4, 7, 0, [], none),
  (186, .isub, 1, 0, 0, 0, [], none),
  (187, .iconst 2, 1, 0, 0, 0, [], none),
  (188, .if_icmp .le 8, 3, 0, 0, 0, [196], none),
  (191, .aload_n 0, 1, 0, 0, 0, [], none),
  (192, .iconst 0, 1, 0, 0, 0, [], none),
  (193, .putfield 37, 3, 4, 6, 0, [], none),
  (196, .aload_n 0, 1, 0, 0, 0, [], none),
  (197, .aload_n 0, 1, 0, 0, 0, [], none),
  (198, .getfield 37, 3, 4, 6, 0, [], none),
  (201, .iconst 3, 1, 0, 0, 0, [], none),
  (202, .if_icmp .ne 10, 3, 0, 0, 0, [212], none),
  (205, .aload_n 0, 1, 0, 0, 0, [], none),
  (206, .invokevirtual 150, 3, 0, 0, 0, [], some mX4_numberSaid),
  (209, .goto 4, 3, 0, 0, 0, [213], none),
  (212, .iconst 0, 1, 0, 0, 0, [], none),
  (213, .putfield 46, 3, 4, 9, 0, [], none),
  (216, .return_, 1, 0, 0, 0, [], none)]
set_option maxRecDepth 100000 in
theorem kX4_advance : ab_def_ok mX4_advance rX4_advance := ⟨ab_mok_of 475 100 474 2 (by decide +kernel), [0, 0, 201, 199, 0, 199, 0, 194, 0, 0, 193, 0, 199, 0, 0, 0, 0, 0, 199, 0, 0, 199, 0, 0, 0, 0, 199, 476, 198, 0, 0, 198, 0, 0, 0, 199, 0, 0, 199, 0, 0, 201, 0, 198, 0, 0, 0, 198, 0, 0, 0, 0, 0, 0, 0, 0, 0, 201, 0, 194, 0, 0, 0, 201, 476, 0, 198, 0, 0, 0, 201, 0, 0, 201, 0, 0, 198, 0, 0, 0, 201, 0, 199, 0, 0, 0, 0, 198, 0, 0, 0, 201, 0, 199, 0, 0, 0, 0, 0, 198, 0, 0, 198, 0, 0, 0, 480, 0, 0, 202, 0], by decide +kernel⟩
set_option maxRecDepth 100000 in
theorem vX4_advance_0 {x : ab_Cx} {d mc ms : Nat} {Post : Option ab_V → List ab_Ob → Prop} (hx : ab_At x mX4_advance d mc ms Post) (w0 w1 : ab_Ob) (kc ks : Nat)
    (h : ab_J x 8 [some (ab_O 0), none] [] [(ab_pf w0 7 (w0.1 8)), w1] kc ks) :
    ab_J x 0 [some (ab_O 0), none] [] [w0, w1] kc ks := ab_go hx kX4_advance.2 9 [(8, [true, false]), (46, [true, false]), (105, [true, true]), (148, [true, false]), (196, [true, false])] 0 h
set_option maxRecDepth 100000 in
theorem vX4_advance_8 {x : ab_Cx} {d mc ms : Nat} {Post : Option ab_V → List ab_Ob → Prop} (hx : ab_At x mX4_advance d mc ms Post) (w0 w1 : ab_Ob) (kc ks : Nat)
    (h : (((w0.1 2) ≤ (w0.1 7) → ab_J x 46 [some (ab_O 0), none] [] [w0, w1] kc ks) ∧ (¬ (w0.1 2) ≤ (w0.1 7) → ((0 ≤ (w0.1 7) ∧ (w0.1 7) < (w0.2 1).1) ∧ ((¬ ((w0.2 1).2 (w0.1 7)) = 32 → ab_J x 46 [some (ab_O 0), none] [] [w0, w1] kc ks) ∧ (((w0.2 1).2 (w0.1 7)) = 32 → ((-2147483648 ≤ (w0.1 7) + 1 ∧ (w0.1 7) + 1 ≤ 2147483647) ∧ ab_J x 8 [some (ab_O 0), none] [] [(ab_pf w0 7 ((w0.1 7) + 1)), w1] kc ks))))))) :
    ab_J x 8 [some (ab_O 0), none] [] [w0, w1] kc ks := ab_go hx kX4_advance.2 24 [(8, [true, false]), (46, [true, false]), (105, [true, true]), (148, [true, false]), (196, [true, false])] 8 h
set_option maxRecDepth 100000 in
theorem vX4_advance_46 {x : ab_Cx} {d mc ms : Nat} {Post : Option ab_V → List ab_Ob → Prop} (hx : ab_At x mX4_advance d mc ms Post) (w0 w1 : ab_Ob) (kc ks : Nat)
    (h : (∃ Q1 : Option ab_V → List ab_Ob → Prop, ab_Ct d 0 0 mX4_kindAt [ab_O 0, ab_I (w0.1 7)] [w0, w1] Q1 ∧ (∀ r2 : Int, Q1 (some (ab_I r2)) [w0, w1] → ((¬ r2 = 1 → ((-2147483648 ≤ (w0.1 7) + 1 ∧ (w0.1 7) + 1 ≤ 2147483647) ∧ ((r2 = 2 → ab_J x 105 [some (ab_O 0), some (ab_I 1)] [] [(ab_pf (ab_pf w0 6 r2) 8 ((w0.1 7) + 1)), w1] kc ks) ∧ (¬ r2 = 2 → ((¬ r2 = 3 → ab_J x 105 [some (ab_O 0), some (ab_I 0)] [] [(ab_pf (ab_pf w0 6 r2) 8 ((w0.1 7) + 1)), w1] kc ks) ∧ (r2 = 3 → ab_J x 105 [some (ab_O 0), some (ab_I 1)] [] [(ab_pf (ab_pf w0 6 r2) 8 ((w0.1 7) + 1)), w1] kc ks)))))) ∧ (r2 = 1 → ((r2 = 2 → ab_J x 105 [some (ab_O 0), some (ab_I 1)] [] [(ab_pf (ab_pf w0 6 r2) 8 (w0.1 7)), w1] kc ks) ∧ (¬ r2 = 2 → ((¬ r2 = 3 → ab_J x 105 [some (ab_O 0), some (ab_I 0)] [] [(ab_pf (ab_pf w0 6 r2) 8 (w0.1 7)), w1] kc ks) ∧ (r2 = 3 → ab_J x 105 [some (ab_O 0), some (ab_I 1)] [] [(ab_pf (ab_pf w0 6 r2) 8 (w0.1 7)), w1] kc ks))))))))) :
    ab_J x 46 [some (ab_O 0), none] [] [w0, w1] kc ks := ab_go hx kX4_advance.2 32 [(8, [true, false]), (46, [true, false]), (105, [true, true]), (148, [true, false]), (196, [true, false])] 46 h
set_option maxRecDepth 100000 in
theorem vX4_advance_105 {x : ab_Cx} {d mc ms : Nat} {Post : Option ab_V → List ab_Ob → Prop} (hx : ab_At x mX4_advance d mc ms Post) (l1 : Int) (w0 w1 : ab_Ob) (kc ks : Nat)
    (h : ((l1 = 0 → ab_J x 148 [some (ab_O 0), none] [] [w0, w1] kc ks) ∧ (¬ l1 = 0 → (((w0.1 2) ≤ (w0.1 8) → ab_J x 148 [some (ab_O 0), none] [] [w0, w1] kc ks) ∧ (¬ (w0.1 2) ≤ (w0.1 8) → (∃ Q1 : Option ab_V → List ab_Ob → Prop, ab_Ct d 0 0 mX4_kindAt [ab_O 0, ab_I (w0.1 8)] [w0, w1] Q1 ∧ (∀ r2 : Int, Q1 (some (ab_I r2)) [w0, w1] → ((¬ r2 = (w0.1 6) → ab_J x 148 [some (ab_O 0), none] [] [w0, w1] kc ks) ∧ (r2 = (w0.1 6) → ((-2147483648 ≤ (w0.1 8) + 1 ∧ (w0.1 8) + 1 ≤ 2147483647) ∧ ab_J x 105 [some (ab_O 0), some (ab_I l1)] [] [(ab_pf w0 8 ((w0.1 8) + 1)), w1] kc ks)))))))))) :
    ab_J x 105 [some (ab_O 0), some (ab_I l1)] [] [w0, w1] kc ks := ab_go hx kX4_advance.2 26 [(8, [true, false]), (46, [true, false]), (105, [true, true]), (148, [true, false]), (196, [true, false])] 105 h
set_option maxRecDepth 100000 in
theorem vX4_advance_148 {x : ab_Cx} {d mc ms : Nat} {Post : Option ab_V → List ab_Ob → Prop} (hx : ab_At x mX4_advance d mc ms Post) (w0 w1 : ab_Ob) (kc ks : Nat)
    (h : ((¬ (w0.1 6) = 2 → ((¬ (w0.1 6) = 3 → ab_J x 196 [some (ab_O 0), none] [] [w0, w1] kc ks) ∧ ((w0.1 6) = 3 → ((-2147483648 ≤ (w0.1 8) - (w0.1 7) ∧ (w0.1 8) - (w0.1 7) ≤ 2147483647) ∧ ((((w0.1 8) - (w0.1 7)) ≤ 2 → ab_J x 196 [some (ab_O 0), none] [] [w0, w1] kc ks) ∧ (¬ ((w0.1 8) - (w0.1 7)) ≤ 2 → ab_J x 196 [some (ab_O 0), none] [] [(ab_pf w0 6 0), w1] kc ks)))))) ∧ ((w0.1 6) = 2 → ((-2147483648 ≤ (w0.1 8) - (w0.1 7) ∧ (w0.1 8) - (w0.1 7) ≤ 2147483647) ∧ ((6 < ((w0.1 8) - (w0.1 7)) → ab_J x 196 [some (ab_O 0), none] [] [(ab_pf w0 6 0), w1] kc ks) ∧ (¬ 6 < ((w0.1 8) - (w0.1 7)) → ((¬ (w0.1 6) = 3 → ab_J x 196 [some (ab_O 0), none] [] [w0, w1] kc ks) ∧ ((w0.1 6) = 3 → ((-2147483648 ≤ (w0.1 8) - (w0.1 7) ∧ (w0.1 8) - (w0.1 7) ≤ 2147483647) ∧ ((((w0.1 8) - (w0.1 7)) ≤ 2 → ab_J x 196 [some (ab_O 0), none] [] [w0, w1] kc ks) ∧ (¬ ((w0.1 8) - (w0.1 7)) ≤ 2 → ab_J x 196 [some (ab_O 0), none] [] [(ab_pf w0 6 0), w1] kc ks))))))))))) :
    ab_J x 148 [some (ab_O 0), none] [] [w0, w1] kc ks := ab_go hx kX4_advance.2 30 [(8, [true, false]), (46, [true, false]), (105, [true, true]), (148, [true, false]), (196, [true, false])] 148 h
set_option maxRecDepth 100000 in
theorem vX4_advance_196 {x : ab_Cx} {d mc ms : Nat} {Post : Option ab_V → List ab_Ob → Prop} (hx : ab_At x mX4_advance d mc ms Post) (w0 w1 : ab_Ob) (kc ks : Nat)
    (h : ((¬ (w0.1 6) = 3 → Post none [(ab_pf w0 9 0), w1]) ∧ ((w0.1 6) = 3 → (∃ Q1 : Option ab_V → List ab_Ob → Prop, ab_Ct d 0 0 mX4_numberSaid [ab_O 0] [w0, w1] Q1 ∧ (∀ r2 : Int, Q1 (some (ab_I r2)) [w0, w1] → Post none [(ab_pf w0 9 r2), w1]))))) :
    ab_J x 196 [some (ab_O 0), none] [] [w0, w1] kc ks := ab_go hx kX4_advance.2 14 [(8, [true, false]), (46, [true, false]), (105, [true, true]), (148, [true, false]), (196, [true, false])] 196 h
def mX4_says : ab_M := ((yX4_says, cX4_says, 3, (some .boolean)), ([4, 5], [(0, 0), (0, 1)], [false, false], false, false, 0), (false, 4, 1))
def rX4_says : List ab_R := [(0, .aload_n 0, 1, 0, 0, 0, [], none),
  (1, .getfield 37, 3, 4, 6, 0, [], none),
  (4, .iconst 2, 1, 0, 0, 0, [], none),
  (5, .if_icmp .ne 19, 3, 0, 0, 0, [24], none),
  (8, .aload_n 0, 1, 0, 0, 0, [], none),
  (9, .getfield 43, 3, 4, 8, 0, [], none),
  (12, .aload_n 0, 1, 0, 0, 0, [], none),
  (13, .getfield 40, 3, 4, 7, 0, [], none),
  (16, .isub, 1, 0, 0, 0, [], none),
  (17, .aload_n 1, 1, 0, 0, 0, [], none),
  (18, .invokevirtual 138, 3, 0, 0, 0, [], some mJ_length),
  (21, .if_icmp .eq 5, 3, 0, 0, 0, [26], none),
  (24, .iconst 0, 1, 0, 0, 0, [], none),
  (25, .ireturn, 1, 0, 0, 0, [], none),
  (26, .iconst 0, 1, 0, 0, 0, [], none),
  (27, .istore_n 2, 1, 0, 0, 0, [], none),
  (28, .iload_n 2, 1, 0, 0, 0, [], none),
  (29, .aload_n 1, 1, 0, 0, 0, [], none),
  (30, .invokevirtual 138, 3, 0, 0, 0, [], some mJ_length),
  (33, .if_icmp .ge 30, 3, 0, 0, 0, [63], none),
  (36, .aload_n 0, 1, 0, 0, 0, [], none),
  (37, .getfield 15, 3, 4, 1, 0, [], none),
  (40, .aload_n 0, 1, 0, 0, 0, [], none),
  (41, .getfield 40, 3, 4, 7, 0, [], none),
  (44, .iload_n 2, 1, 0, 0, 0, [], none),
  (45, .iadd, 1, 0, 0, 0, [], none),
  (46, .baload, 1, 0, 0, 0, [], none),
  (47, .aload_n 1, 1, 0, 0, 0, [], none),
  (48, .iload_n 2, 1, 0, 0, 0, [], none),
  (49, .invokevirtual 142, 3, 0, 0, 0, [], some mJ_charAt),
  (52, .if_icmp .eq 5, 3, 0, 0, 0, [57], none),
  (55, .iconst 0, 1, 0, 0, 0, [], none),
  (56, .ireturn, 1, 0, 0, 0, [], none),
  (57, .iinc 2 1, 3, 0, 0, 0, [], none),
  (60, .goto (-32), 3, 0, 0, 0, [28], none),
  (63, .iconst 1, 1, 0, 0, 0, [], none),
  (64, .ireturn, 1, 0, 0, 0, [], none)]
set_option maxRecDepth 100000 in
theorem kX4_says : ab_def_ok mX4_says rX4_says := ⟨ab_mok_of 492 100 491 6 (by decide +kernel), [0, 198, 0, 0, 0, 201, 0, 199, 0, 0, 493, 0, 0, 0, 0, 0, 0, 0, 493, 0, 0, 193, 0, 199, 0, 0, 0, 0, 0, 503, 0, 0, 0, 0, 0, 0, 0], by decide +kernel⟩
set_option maxRecDepth 100000 in
theorem vX4_says_0 {x : ab_Cx} {d mc ms : Nat} {Post : Option ab_V → List ab_Ob → Prop} (hx : ab_At x mX4_says d mc ms Post) (n1 : Nat) (w0 w1 : ab_Ob) (kc ks : Nat)
    (h : ((¬ (w0.1 6) = 2 → (((0 : Int) = 0 ∨ (0 : Int) = 1) ∧ Post (some (ab_I 0)) [w0, w1])) ∧ ((w0.1 6) = 2 → ((-2147483648 ≤ (w0.1 8) - (w0.1 7) ∧ (w0.1 8) - (w0.1 7) ≤ 2147483647) ∧ (n1 < 12 ∧ ∃ Q1 : Option ab_V → List ab_Ob → Prop, ab_Ct d 0 0 mJ_length [ab_S n1] [] Q1 ∧ (∀ r2 : Int, Q1 (some (ab_I r2)) [] → ((((w0.1 8) - (w0.1 7)) = r2 → ab_J x 28 [some (ab_O 0), some (ab_S n1), some (ab_I 0)] [] [w0, w1] kc ks) ∧ (¬ ((w0.1 8) - (w0.1 7)) = r2 → (((0 : Int) = 0 ∨ (0 : Int) = 1) ∧ Post (some (ab_I 0)) [w0, w1]))))))))) :
    ab_J x 0 [some (ab_O 0), some (ab_S n1), none] [] [w0, w1] kc ks := ab_go hx kX4_says.2 19 [(28, [true, true, true])] 0 h
set_option maxRecDepth 100000 in
theorem vX4_says_28 {x : ab_Cx} {d mc ms : Nat} {Post : Option ab_V → List ab_Ob → Prop} (hx : ab_At x mX4_says d mc ms Post) (l2 : Int) (n1 : Nat) (w0 w1 : ab_Ob) (kc ks : Nat)
    (h : (n1 < 12 ∧ ∃ Q1 : Option ab_V → List ab_Ob → Prop, ab_Ct d 0 0 mJ_length [ab_S n1] [] Q1 ∧ (∀ r2 : Int, Q1 (some (ab_I r2)) [] → ((r2 ≤ l2 → (((1 : Int) = 0 ∨ (1 : Int) = 1) ∧ Post (some (ab_I 1)) [w0, w1])) ∧ (¬ r2 ≤ l2 → ((-2147483648 ≤ (w0.1 7) + l2 ∧ (w0.1 7) + l2 ≤ 2147483647) ∧ ((0 ≤ ((w0.1 7) + l2) ∧ ((w0.1 7) + l2) < (w0.2 1).1) ∧ (n1 < 12 ∧ ∃ Q3 : Option ab_V → List ab_Ob → Prop, ab_Ct d 0 0 mJ_charAt [ab_S n1, ab_I l2] [] Q3 ∧ (∀ r4 : Int, Q3 (some (ab_I r4)) [] → ((((w0.2 1).2 ((w0.1 7) + l2)) = r4 → ((-2147483648 ≤ l2 + 1 ∧ l2 + 1 ≤ 2147483647) ∧ ab_J x 28 [some (ab_O 0), some (ab_S n1), some (ab_I (l2 + 1))] [] [w0, w1] kc ks)) ∧ (¬ ((w0.2 1).2 ((w0.1 7) + l2)) = r4 → (((0 : Int) = 0 ∨ (0 : Int) = 1) ∧ Post (some (ab_I 0)) [w0, w1])))))))))))) :
    ab_J x 28 [some (ab_O 0), some (ab_S n1), some (ab_I l2)] [] [w0, w1] kc ks := ab_go hx kX4_says.2 22 [(28, [true, true, true])] 28 h
def mX4_checkWhole : ab_M := ((yX4_checkWhole, cX4_checkWhole, 3, (some .int)), ([4, 5], [(0, 0), (0, 1)], [false, false], false, false, 0), (false, 4, 2))
def rX4_checkWhole : List ab_R := [(0, .aload_n 0, 1, 0, 0, 0, [], none),
  (1, .getfield 37, 3, 4, 6, 0, [], none),
  (4, .iconst 3, 1, 0, 0, 0, [], none),
  (5, .if_icmp .eq 5, 3, 0, 0, 0, [10], none),
  (8, .iconst 1, 1, 0, 0, 0, [], none),
  (9, .ireturn, 1, 0, 0, 0, [], none),
  (10, .aload_n 0, 1, 0, 0, 0, [], none),
  (11, .getfield 46, 3, 4, 9, 0, [], none),
  (14, .iload_n 1, 1, 0, 0, 0, [], none),
  (15, .if_icmp .lt 11, 3, 0, 0, 0, [26], none),
  (18, .aload_n 0, 1, 0, 0, 0, [], none),
  (19, .getfield 46, 3, 4, 9, 0, [], none),
  (22, .iload_n 2, 1, 0, 0, 0, [], none),
  (23, .if_icmp .le 7, 3, 0, 0, 0, [30], none),
  (26, .iconst 2, 1, 0, 0, 0, [], none),
  (27, .goto 4, 3, 0, 0, 0, [31], none),
  (30, .iconst 0, 1, 0, 0, 0, [], none),
  (31, .ireturn, 1, 0, 0, 0, [], none)]
set_option maxRecDepth 100000 in
theorem kX4_checkWhole : ab_def_ok mX4_checkWhole rX4_checkWhole := ⟨ab_mok_of 553 100 552 9 (by decide +kernel), [0, 198, 0, 0, 0, 0, 0, 202, 0, 0, 0, 202, 0, 0, 0, 0, 0, 0], by decide +kernel⟩
set_option maxRecDepth 100000 in
theorem vX4_checkWhole_0 {x : ab_Cx} {d mc ms : Nat} {Post : Option ab_V → List ab_Ob → Prop} (hx : ab_At x mX4_checkWhole d mc ms Post) (a1 a2 : Int) (w0 w1 : ab_Ob) (kc ks : Nat)
    (h : (((w0.1 6) = 3 → (((w0.1 9) < a1 → Post (some (ab_I 2)) [w0, w1]) ∧ (¬ (w0.1 9) < a1 → (((w0.1 9) ≤ a2 → Post (some (ab_I 0)) [w0, w1]) ∧ (¬ (w0.1 9) ≤ a2 → Post (some (ab_I 2)) [w0, w1]))))) ∧ (¬ (w0.1 6) = 3 → Post (some (ab_I 1)) [w0, w1]))) :
    ab_J x 0 [some (ab_O 0), some (ab_I a1), some (ab_I a2)] [] [w0, w1] kc ks := ab_go hx kX4_checkWhole.2 19 [] 0 h
def mX4_readNamed : ab_M := ((yX4_readNamed, cX4_readNamed, 4, (some .int)), ([4, 5], [(0, 0), (0, 1)], [true, false], false, false, 0), (false, 4, 3))
def rX4_readNamed : List ab_R := [(0, .aload_n 0, 1, 0, 0, 0, [], none),
  (1, .aload_n 1, 1, 0, 0, 0, [], none),
  (2, .invokevirtual 79, 3, 0, 0, 0, [], some mX4_says),
  (5, .ifCond .ne 5, 3, 0, 0, 0, [10], none),
  (8, .iconst 1, 1, 0, 0, 0, [], none),
  (9, .ireturn, 1, 0, 0, 0, [], none),
  (10, .aload_n 0, 1, 0, 0, 0, [], none),
  (11, .invokevirtual 68, 3, 0, 0, 0, [], some mX4_advance),
  (14, .aload_n 0, 1, 0, 0, 0, [], none),
  (15, .iload_n 2, 1, 0, 0, 0, [], none),
  (16, .iload_n 3, 1, 0, 0, 0, [], none),
  (17, .invokevirtual 112, 3, 0, 0, 0, [], some mX4_checkWhole),
  (20, .ireturn, 1, 0, 0, 0, [], none)]
set_option maxRecDepth 100000 in
theorem kX4_readNamed : ab_def_ok mX4_readNamed rX4_readNamed := ⟨ab_mok_of 549 100 548 8 (by decide +kernel), [0, 0, 489, 0, 0, 0, 0, 472, 0, 0, 0, 550, 0], by decide +kernel⟩
set_option maxRecDepth 100000 in
theorem vX4_readNamed_0 {x : ab_Cx} {d mc ms : Nat} {Post : Option ab_V → List ab_Ob → Prop} (hx : ab_At x mX4_readNamed d mc ms Post) (a2 a3 : Int) (n1 : Nat) (w0 w1 : ab_Ob) (kc ks : Nat)
    (h : (∃ Q1 : Option ab_V → List ab_Ob → Prop, ab_Ct d 0 0 mX4_says [ab_O 0, ab_S n1] [w0, w1] Q1 ∧ (∀ r2 : Int, Q1 (some (ab_I r2)) [w0, w1] → ((¬ r2 = 0 → (∃ Q3 : Option ab_V → List ab_Ob → Prop, ab_Ct d 0 0 mX4_advance [ab_O 0] [w0, w1] Q3 ∧ (∀ v4 : ab_Ob, Q3 none [v4, w1] → (∃ Q5 : Option ab_V → List ab_Ob → Prop, ab_Ct d 0 0 mX4_checkWhole [ab_O 0, ab_I a2, ab_I a3] [v4, w1] Q5 ∧ (∀ r6 : Int, Q5 (some (ab_I r6)) [v4, w1] → Post (some (ab_I r6)) [v4, w1]))))) ∧ (r2 = 0 → Post (some (ab_I 1)) [w0, w1]))))) :
    ab_J x 0 [some (ab_O 0), some (ab_S n1), some (ab_I a2), some (ab_I a3)] [] [w0, w1] kc ks := ab_go hx kX4_readNamed.2 15 [] 0 h
def mX4_readPiece : ab_M := ((yX4_readPiece, cX4_readPiece, 2, (some .int)), ([4, 5], [(0, 0), (0, 1)], [true, true], false, false, 0), (false, 4, 0))
def rX4_readPiece : List ab_R := [(0, .aload_n 0, 1, 0, 0, 0, [], none),
  (1, .iconst 1, 1, 0, 0, 0, [], none),
  (2, .putfield 29, 3, 4, 4, 0, [], none),
  (5, .aload_n 0, 1, 0, 0, 0, [], none),
  (6, .invokevirtual 68, 3, 0, 0, 0, [], some mX4_advance),
  (9, .aload_n 0, 1, 0, 0, 0, [], none),
  (10, .ldc 96, 2, 0, 3, 1, [], none),
  (12, .iconst 1, 1, 0, 0, 0, [], none),
  (13, .bipush 64, 2, 0, 0, 0, [], none),
  (15, .invokevirtual 98, 3, 0, 0, 0, [], some mX4_readNamed),
  (18, .istore_n 1, 1, 0, 0, 0, [], none),
  (19, .iload_n 1, 1, 0, 0, 0, [], none),
  (20, .ifCond .eq 5, 3, 0, 0, 0, [25], none),
  (23, .iload_n 1, 1, 0, 0, 0, [], none),
  (24, .ireturn, 1, 0, 0, 0, [], none),
  (25, .aload_n 0, 1, 0, 0, 0, [], none),
  (26, .getfield 25, 3, 4, 3, 0, [], none),
  (29, .aload_n 0, 1, 0, 0, 0, [], none),
  (30, .getfield 46, 3, 4, 9, 0, [], none),
  (33, .putfield 102, 3, 5, 0, 0, [], none),
  (36, .aload_n 0, 1, 0, 0, 0, [], none),
  (37, .invokevirtual 68, 3, 0, 0, 0, [], some mX4_advance),
  (40, .aload_n 0, 1, 0, 0, 0, [], none),
  (41, .ldc 104, 2, 0, 4, 1, [], none),
  (43, .iconst 1, 1, 0, 0, 0, [], none),
  (44, .aload_n 0, 1, 0, 0, 0, [], none),
  (45, .getfield 25, 3, 4, 3, 0, [], none),
  (48, .getfield 102, 3, 5, 0, 0, [], none),
  (51, .invokevirtual 98, 3, 0, 0, 0, [], some mX4_readNamed),
  (54, .istore_n 1, 1, 0, 0, 0, [], none),
  (55, .iload_n 1, 1, 0, 0, 0, [], none),
  (56, .ifCond .eq 5, 3, 0, 0, 0, [61], none),
  (59, .iload_n 1, 1, 0, 0, 0, [], none),
  (60, .ireturn, 1, 0, 0, 0, [], none),
  (61, .aload_n 0, 1, 0, 0, 0, [], none),
  (62, .getfield 25, 3, 4, 3, 0, [], none),
  (65, .aload_n 0, 1, 0, 0, 0, [], none),
  (66, .getfield 46, 3, 4, 9, 0, [], none),
  (69, .putfield 106, 3, 5, 1, 0, [], none),
  (72, .aload_n 0, 1, 0, 0, 0, [], none),
  (73, .invokevirtual 68, 3, 0, 0, 0, [], some mX4_advance),
  (76, .aload_n 0, 1, 0, 0, 0, [], none),
  (77, .ldc 108, 2, 0, 5, 1, [], none),
  (79, .iconst 0, 1, 0, 0, 0, [], none),
  (80, .bipush 11, 2, 0, 0, 0, [], none),
  (82, .invokevirtual 98, 3, 0, 0, 0, [], some mX4_readNamed),
  (85, .istore_n 1, 1, 0, 0, 0, [], none),
  (86, .iload_n 1, 1, 0, 0, 0, [], none),
  (87, .ifCond .eq 5, 3, 0, 0, 0, [92], none),
  (90, .iload_n 1, 1, 0, 0, 0, [], none),
  (91, .ireturn, 1, 0, 0, 0, [], none),
  (92, .aload_n 0, 1, 0, 0, 0, [], none),
  (93, .getfield 25, 3, 4, 3, 0, [], none),
  (96, .aload_n 0, 1, 0, 0, 0, [], none),
  (97, .getfield 46, 3, 4, 9, 0, [], none),
  (100, .putfield 110, 3, 5, 2, 0, [], none),
  (103, .aload_n 0, 1, 0, 0, 0, [], none),
  (104, .invokevirtual 68, 3, 0, 0, 0, [], some mX4_advance),
  (107, .iconst 0, 1, 0, 0, 0, [], none),
  (108, .ireturn, 1, 0, 0, 0, [], none)]
set_option maxRecDepth 100000 in
theorem kX4_readPiece : ab_def_ok mX4_readPiece rX4_readPiece := ⟨ab_mok_of 544 100 543 7 (by decide +kernel), [0, 0, 196, 0, 472, 0, 0, 0, 0, 546, 0, 0, 0, 0, 0, 0, 195, 0, 202, 140, 0, 472, 0, 0, 0, 0, 195, 140, 546, 0, 0, 0, 0, 0, 0, 195, 0, 202, 143, 0, 472, 0, 0, 0, 0, 546, 0, 0, 0, 0, 0, 0, 195, 0, 202, 146, 0, 472, 0, 0], by decide +kernel⟩
set_option maxRecDepth 100000 in
theorem vX4_readPiece_0 {x : ab_Cx} {d mc ms : Nat} {Post : Option ab_V → List ab_Ob → Prop} (hx : ab_At x mX4_readPiece d mc ms Post) (w0 w1 : ab_Ob) (kc ks : Nat)
    (h : (((1 : Int) = 0 ∨ (1 : Int) = 1) ∧ (∃ Q1 : Option ab_V → List ab_Ob → Prop, ab_Ct d 0 0 mX4_advance [ab_O 0] [(ab_pf w0 4 1), w1] Q1 ∧ (∀ v2 : ab_Ob, Q1 none [v2, w1] → (∃ Q3 : Option ab_V → List ab_Ob → Prop, ab_Ct d 0 0 mX4_readNamed [ab_O 0, ab_S 3, ab_I 1, ab_I 64] [v2, w1] Q3 ∧ (∀ r4 : Int, ∀ v5 : ab_Ob, Q3 (some (ab_I r4)) [v5, w1] → ((r4 = 0 → (∃ Q6 : Option ab_V → List ab_Ob → Prop, ab_Ct d 0 0 mX4_advance [ab_O 0] [v5, (ab_pf w1 0 (v5.1 9))] Q6 ∧ (∀ v7 : ab_Ob, Q6 none [v7, (ab_pf w1 0 (v5.1 9))] → (∃ Q8 : Option ab_V → List ab_Ob → Prop, ab_Ct d 0 0 mX4_readNamed [ab_O 0, ab_S 4, ab_I 1, ab_I (v5.1 9)] [v7, (ab_pf w1 0 (v5.1 9))] Q8 ∧ (∀ r9 : Int, ∀ v10 : ab_Ob, Q8 (some (ab_I r9)) [v10, (ab_pf w1 0 (v5.1 9))] → ((r9 = 0 → (∃ Q11 : Option ab_V → List ab_Ob → Prop, ab_Ct d 0 0 mX4_advance [ab_O 0] [v10, (ab_pf (ab_pf w1 0 (v5.1 9)) 1 (v10.1 9))] Q11 ∧ (∀ v12 : ab_Ob, Q11 none [v12, (ab_pf (ab_pf w1 0 (v5.1 9)) 1 (v10.1 9))] → (∃ Q13 : Option ab_V → List ab_Ob → Prop, ab_Ct d 0 0 mX4_readNamed [ab_O 0, ab_S 5, ab_I 0, ab_I 11] [v12, (ab_pf (ab_pf w1 0 (v5.1 9)) 1 (v10.1 9))] Q13 ∧ (∀ r14 : Int, ∀ v15 : ab_Ob, Q13 (some (ab_I r14)) [v15, (ab_pf (ab_pf w1 0 (v5.1 9)) 1 (v10.1 9))] → ((r14 = 0 → (∃ Q16 : Option ab_V → List ab_Ob → Prop, ab_Ct d 0 0 mX4_advance [ab_O 0] [v15, (ab_pf (ab_pf (ab_pf w1 0 (v5.1 9)) 1 (v10.1 9)) 2 (v15.1 9))] Q16 ∧ (∀ v17 : ab_Ob, Q16 none [v17, (ab_pf (ab_pf (ab_pf w1 0 (v5.1 9)) 1 (v10.1 9)) 2 (v15.1 9))] → Post (some (ab_I 0)) [v17, (ab_pf (ab_pf (ab_pf w1 0 (v5.1 9)) 1 (v10.1 9)) 2 (v15.1 9))]))) ∧ (¬ r14 = 0 → Post (some (ab_I r14)) [v15, (ab_pf (ab_pf w1 0 (v5.1 9)) 1 (v10.1 9))]))))))) ∧ (¬ r9 = 0 → Post (some (ab_I r9)) [v10, (ab_pf w1 0 (v5.1 9))]))))))) ∧ (¬ r4 = 0 → Post (some (ab_I r4)) [v5, w1])))))))) :
    ab_J x 0 [some (ab_O 0), none] [] [w0, w1] kc ks := ab_go hx kX4_readPiece.2 58 [] 0 h
def mX4_readNote : ab_M := ((yX4_readNote, cX4_readNote, 3, (some .int)), ([4, 5], [(0, 0), (0, 1)], [true, true], false, false, 0), (false, 4, 0))
def rX4_readNote : List ab_R := [(0, .aload_n 0, 1, 0, 0, 0, [], none),
  (1, .invokevirtual 68, 3, 0, 0, 0, [], some mX4_advance),
  (4, .aload_n 0, 1, 0, 0, 0, [], none),
  (5, .iconst 0, 1, 0, 0, 0, [], none),
  (6, .bipush 99, 2, 0, 0, 0, [], none),
  (8, .invokevirtual 112, 3, 0, 0, 0, [], some mX4_checkWhole),
  (11, .istore_n 1, 1, 0, 0, 0, [], none),
  (12, .iload_n 1, 1, 0, 0, 0, [], none),
  (13, .ifCond .eq 5, 3, 0, 0, 0, [18], none),
  (16, .iload_n 1, 1, 0, 0, 0, [], none),
  (17, .ireturn, 1, 0, 0, 0, [], none),
  (18, .aload_n 0, 1, 0, 0, 0, [], none),
  (19, .getfield 46, 3, 4, 9, 0, [], none),
  (22, .istore_n 2, 1, 0, 0, 0, [], none),
  (23, .aload_n 0, 1, 0, 0, 0, [], none),
  (24, .invokevirtual 68, 3, 0, 0, 0, [], some mX4_advance),
  (27, .aload_n 0, 1, 0, 0, 0, [], none),
  (28, .ldc 115, 2, 0, 6, 1, [], none),
  (30, .iconst 1, 1, 0, 0, 0, [], none),
  (31, .bipush 64, 2, 0, 0, 0, [], none),
  (33, .invokevirtual 98, 3, 0, 0, 0, [], some mX4_readNamed),
  (36, .istore_n 1, 1, 0, 0, 0, [], none),
  (37, .iload_n 1, 1, 0, 0, 0, [], none),
  (38, .ifCond .eq 5, 3, 0, 0, 0, [43], none),
  (41, .iload_n 1, 1, 0, 0, 0, [], none),
  (42, .ireturn, 1, 0, 0, 0, [], none),
  (43, .aload_n 0, 1, 0, 0, 0, [], none),
  (44, .getfield 25, 3, 4, 3, 0, [], none),
  (47, .iload_n 2, 1, 0, 0, 0, [], none),
  (48, .aload_n 0, 1, 0, 0, 0, [], none),
  (49, .getfield 46, 3, 4, 9, 0, [], none),
  (52, .invokevirtual 117, 3, 0, 0, 0, [], some mX5_addNote),
  (55, .aload_n 0, 1, 0, 0, 0, [], none),
  (56, .invokevirtual 68, 3, 0, 0, 0, [], some mX4_advance),
  (59, .iconst 0, 1, 0, 0, 0, [], none),
  (60, .ireturn, 1, 0, 0, 0, [], none)]
set_option maxRecDepth 100000 in
theorem kX4_readNote : ab_def_ok mX4_readNote rX4_readNote := ⟨ab_mok_of 560 100 559 10 (by decide +kernel), [0, 472, 0, 0, 0, 550, 0, 0, 0, 0, 0, 0, 202, 0, 0, 472, 0, 0, 0, 0, 546, 0, 0, 0, 0, 0, 0, 195, 0, 0, 202, 562, 0, 472, 0, 0], by decide +kernel⟩
set_option maxRecDepth 100000 in
theorem vX4_readNote_0 {x : ab_Cx} {d mc ms : Nat} {Post : Option ab_V → List ab_Ob → Prop} (hx : ab_At x mX4_readNote d mc ms Post) (w0 w1 : ab_Ob) (kc ks : Nat)
    (h : (∃ Q1 : Option ab_V → List ab_Ob → Prop, ab_Ct d 0 0 mX4_advance [ab_O 0] [w0, w1] Q1 ∧ (∀ v2 : ab_Ob, Q1 none [v2, w1] → (∃ Q3 : Option ab_V → List ab_Ob → Prop, ab_Ct d 0 0 mX4_checkWhole [ab_O 0, ab_I 0, ab_I 99] [v2, w1] Q3 ∧ (∀ r4 : Int, Q3 (some (ab_I r4)) [v2, w1] → ((r4 = 0 → (∃ Q5 : Option ab_V → List ab_Ob → Prop, ab_Ct d 0 0 mX4_advance [ab_O 0] [v2, w1] Q5 ∧ (∀ v6 : ab_Ob, Q5 none [v6, w1] → (∃ Q7 : Option ab_V → List ab_Ob → Prop, ab_Ct d 0 0 mX4_readNamed [ab_O 0, ab_S 6, ab_I 1, ab_I 64] [v6, w1] Q7 ∧ (∀ r8 : Int, ∀ v9 : ab_Ob, Q7 (some (ab_I r8)) [v9, w1] → ((r8 = 0 → (∃ Q10 : Option ab_V → List ab_Ob → Prop, ab_Ct d 0 0 mX5_addNote [ab_O 0, ab_I (v2.1 9), ab_I (v9.1 9)] [w1] Q10 ∧ (∀ v11 : ab_Ob, Q10 none [v11] → (∃ Q12 : Option ab_V → List ab_Ob → Prop, ab_Ct d 0 0 mX4_advance [ab_O 0] [v9, v11] Q12 ∧ (∀ v13 : ab_Ob, Q12 none [v13, v11] → Post (some (ab_I 0)) [v13, v11]))))) ∧ (¬ r8 = 0 → Post (some (ab_I r8)) [v9, w1]))))))) ∧ (¬ r4 = 0 → Post (some (ab_I r4)) [v2, w1]))))))) :
    ab_J x 0 [some (ab_O 0), none, none] [] [w0, w1] kc ks := ab_go hx kX4_readNote.2 36 [] 0 h
def mX4_ruleSaid : ab_M := ((yX4_ruleSaid, cX4_ruleSaid, 1, (some .int)), ([4, 5], [(0, 0), (0, 1)], [false, false], false, false, 0), (false, 4, 0))
def rX4_ruleSaid : List ab_R := [(0, .aload_n 0, 1, 0, 0, 0, [], none),
  (1, .ldc 128, 2, 0, 7, 1, [], none),
  (3, .invokevirtual 79, 3, 0, 0, 0, [], some mX4_says),
  (6, .ifCond .eq 5, 3, 0, 0, 0, [11], none),
  (9, .iconst 0, 1, 0, 0, 0, [], none),
  (10, .ireturn, 1, 0, 0, 0, [], none),
  (11, .aload_n 0, 1, 0, 0, 0, [], none),
  (12, .ldc 115, 2, 0, 6, 1, [], none),
  (14, .invokevirtual 79, 3, 0, 0, 0, [], some mX4_says),
  (17, .ifCond .eq 5, 3, 0, 0, 0, [22], none),
  (20, .iconst 1, 1, 0, 0, 0, [], none),
  (21, .ireturn, 1, 0, 0, 0, [], none),
  (22, .aload_n 0, 1, 0, 0, 0, [], none),
  (23, .ldc 130, 2, 0, 8, 1, [], none),
  (25, .invokevirtual 79, 3, 0, 0, 0, [], some mX4_says),
  (28, .ifCond .eq 5, 3, 0, 0, 0, [33], none),
  (31, .iconst 2, 1, 0, 0, 0, [], none),
  (32, .ireturn, 1, 0, 0, 0, [], none),
  (33, .aload_n 0, 1, 0, 0, 0, [], none),
  (34, .ldc 132, 2, 0, 9, 1, [], none),
  (36, .invokevirtual 79, 3, 0, 0, 0, [], some mX4_says),
  (39, .ifCond .eq 5, 3, 0, 0, 0, [44], none),
  (42, .iconst 3, 1, 0, 0, 0, [], none),
  (43, .ireturn, 1, 0, 0, 0, [], none),
  (44, .aload_n 0, 1, 0, 0, 0, [], none),
  (45, .ldc 134, 2, 0, 10, 1, [], none),
  (47, .invokevirtual 79, 3, 0, 0, 0, [], some mX4_says),
  (50, .ifCond .eq 5, 3, 0, 0, 0, [55], none),
  (53, .iconst 4, 1, 0, 0, 0, [], none),
  (54, .ireturn, 1, 0, 0, 0, [], none),
  (55, .aload_n 0, 1, 0, 0, 0, [], none),
  (56, .ldc 136, 2, 0, 11, 1, [], none),
  (58, .invokevirtual 79, 3, 0, 0, 0, [], some mX4_says),
  (61, .ifCond .eq 7, 3, 0, 0, 0, [68], none),
  (64, .iconst 5, 1, 0, 0, 0, [], none),
  (65, .goto 4, 3, 0, 0, 0, [69], none),
  (68, .iconst (-1), 1, 0, 0, 0, [], none),
  (69, .ireturn, 1, 0, 0, 0, [], none)]
set_option maxRecDepth 100000 in
theorem kX4_ruleSaid : ab_def_ok mX4_ruleSaid rX4_ruleSaid := ⟨ab_mok_of 574 100 573 12 (by decide +kernel), [0, 0, 489, 0, 0, 0, 0, 0, 489, 0, 0, 0, 0, 0, 489, 0, 0, 0, 0, 0, 489, 0, 0, 0, 0, 0, 489, 0, 0, 0, 0, 0, 489, 0, 0, 0, 0, 0], by decide +kernel⟩
set_option maxRecDepth 100000 in
theorem vX4_ruleSaid_0 {x : ab_Cx} {d mc ms : Nat} {Post : Option ab_V → List ab_Ob → Prop} (hx : ab_At x mX4_ruleSaid d mc ms Post) (w0 w1 : ab_Ob) (kc ks : Nat)
    (h : (∃ Q1 : Option ab_V → List ab_Ob → Prop, ab_Ct d 0 0 mX4_says [ab_O 0, ab_S 7] [w0, w1] Q1 ∧ (∀ r2 : Int, Q1 (some (ab_I r2)) [w0, w1] → ((r2 = 0 → (∃ Q3 : Option ab_V → List ab_Ob → Prop, ab_Ct d 0 0 mX4_says [ab_O 0, ab_S 6] [w0, w1] Q3 ∧ (∀ r4 : Int, Q3 (some (ab_I r4)) [w0, w1] → ((r4 = 0 → (∃ Q5 : Option ab_V → List ab_Ob → Prop, ab_Ct d 0 0 mX4_says [ab_O 0, ab_S 8] [w0, w1] Q5 ∧ (∀ r6 : Int, Q5 (some (ab_I r6)) [w0, w1] → ((r6 = 0 → (∃ Q7 : Option ab_V → List ab_Ob → Prop, ab_Ct d 0 0 mX4_says [ab_O 0, ab_S 9] [w0, w1] Q7 ∧ (∀ r8 : Int, Q7 (some (ab_I r8)) [w0, w1] → ((r8 = 0 → (∃ Q9 : Option ab_V → List ab_Ob → Prop, ab_Ct d 0 0 mX4_says [ab_O 0, ab_S 10] [w0, w1] Q9 ∧ (∀ r10 : Int, Q9 (some (ab_I r10)) [w0, w1] → ((r10 = 0 → (∃ Q11 : Option ab_V → List ab_Ob → Prop, ab_Ct d 0 0 mX4_says [ab_O 0, ab_S 11] [w0, w1] Q11 ∧ (∀ r12 : Int, Q11 (some (ab_I r12)) [w0, w1] → ((r12 = 0 → Post (some (ab_I (-1))) [w0, w1]) ∧ (¬ r12 = 0 → Post (some (ab_I 5)) [w0, w1]))))) ∧ (¬ r10 = 0 → Post (some (ab_I 4)) [w0, w1]))))) ∧ (¬ r8 = 0 → Post (some (ab_I 3)) [w0, w1]))))) ∧ (¬ r6 = 0 → Post (some (ab_I 2)) [w0, w1]))))) ∧ (¬ r4 = 0 → Post (some (ab_I 1)) [w0, w1]))))) ∧ (¬ r2 = 0 → Post (some (ab_I 0)) [w0, w1]))))) :
    ab_J x 0 [some (ab_O 0)] [] [w0, w1] kc ks := ab_go hx kX4_ruleSaid.2 31 [] 0 h
def mX4_readRule : ab_M := ((yX4_readRule, cX4_readRule, 3, (some .int)), ([4, 5], [(0, 0), (0, 1)], [true, true], false, false, 0), (false, 4, 0))
def rX4_readRule : List ab_R := [(0, .aload_n 0, 1, 0, 0, 0, [], none),
  (1, .invokevirtual 68, 3, 0, 0, 0, [], some mX4_advance),
  (4, .aload_n 0, 1, 0, 0, 0, [], none),
  (5, .invokevirtual 121, 3, 0, 0, 0, [], some mX4_ruleSaid),
  (8, .istore_n 1, 1, 0, 0, 0, [], none),
  (9, .iload_n 1, 1, 0, 0, 0, [], none),
  (10, .iconst (-1), 1, 0, 0, 0, [], none),
  (11, .if_icmp .ne 5, 3, 0, 0, 0, [16], none),
  (14, .iconst 1, 1, 0, 0, 0, [], none),
  (15, .ireturn, 1, 0, 0, 0, [], none),
  (16, .aload_n 0, 1, 0, 0, 0, [], none),
  (17, .getfield 33, 3, 4, 5, 0, [], none),
  (20, .iload_n 1, 1, 0, 0, 0, [], none),
  (21, .baload, 1, 0, 0, 0, [], none),
  (22, .ifCond .eq 5, 3, 0, 0, 0, [27], none),
  (25, .iconst 3, 1, 0, 0, 0, [], none),
  (26, .ireturn, 1, 0, 0, 0, [], none),
  (27, .aload_n 0, 1, 0, 0, 0, [], none),
  (28, .getfield 33, 3, 4, 5, 0, [], none),
  (31, .iload_n 1, 1, 0, 0, 0, [], none),
  (32, .iconst 1, 1, 0, 0, 0, [], none),
  (33, .bastore, 1, 0, 0, 0, [], none),
  (34, .aload_n 0, 1, 0, 0, 0, [], none),
  (35, .invokevirtual 68, 3, 0, 0, 0, [], some mX4_advance),
  (38, .aload_n 0, 1, 0, 0, 0, [], none),
  (39, .iconst 0, 1, 0, 0, 0, [], none),
  (40, .bipush 99, 2, 0, 0, 0, [], none),
  (42, .invokevirtual 112, 3, 0, 0, 0, [], some mX4_checkWhole),
  (45, .istore_n 2, 1, 0, 0, 0, [], none),
  (46, .iload_n 2, 1, 0, 0, 0, [], none),
  (47, .ifCond .eq 5, 3, 0, 0, 0, [52], none),
  (50, .iload_n 2, 1, 0, 0, 0, [], none),
  (51, .ireturn, 1, 0, 0, 0, [], none),
  (52, .aload_n 0, 1, 0, 0, 0, [], none),
  (53, .getfield 25, 3, 4, 3, 0, [], none),
  (56, .getfield 124, 3, 5, 6, 0, [], none),
  (59, .iload_n 1, 1, 0, 0, 0, [], none),
  (60, .aload_n 0, 1, 0, 0, 0, [], none),
  (61, .getfield 46, 3, 4, 9, 0, [], none),
  (64, .iastore, 1, 0, 0, 0, [], none),
  (65, .aload_n 0, 1, 0, 0, 0, [], none),
  (66, .invokevirtual 68, 3, 0, 0, 0, [], some mX4_advance),
  (69, .iconst 0, 1, 0, 0, 0, [], none),
  (70, .ireturn, 1, 0, 0, 0, [], none)]
set_option maxRecDepth 100000 in
theorem kX4_readRule : ab_def_ok mX4_readRule rX4_readRule := ⟨ab_mok_of 570 100 569 11 (by decide +kernel), [0, 472, 0, 571, 0, 0, 0, 0, 0, 0, 0, 197, 0, 0, 0, 0, 0, 0, 197, 0, 0, 0, 0, 472, 0, 0, 0, 550, 0, 0, 0, 0, 0, 0, 195, 161, 0, 0, 202, 0, 0, 472, 0, 0], by decide +kernel⟩
set_option maxRecDepth 100000 in
theorem vX4_readRule_0 {x : ab_Cx} {d mc ms : Nat} {Post : Option ab_V → List ab_Ob → Prop} (hx : ab_At x mX4_readRule d mc ms Post) (w0 w1 : ab_Ob) (kc ks : Nat)
    (h : (∃ Q1 : Option ab_V → List ab_Ob → Prop, ab_Ct d 0 0 mX4_advance [ab_O 0] [w0, w1] Q1 ∧ (∀ v2 : ab_Ob, Q1 none [v2, w1] → (∃ Q3 : Option ab_V → List ab_Ob → Prop, ab_Ct d 0 0 mX4_ruleSaid [ab_O 0] [v2, w1] Q3 ∧ (∀ r4 : Int, Q3 (some (ab_I r4)) [v2, w1] → ((¬ r4 = (-1) → ((0 ≤ r4 ∧ r4 < (v2.2 5).1) ∧ ((((v2.2 5).2 r4) = 0 → ((0 ≤ r4 ∧ r4 < (v2.2 5).1) ∧ ((1 : Int) = 0 ∨ (1 : Int) = 1) ∧ (∃ Q5 : Option ab_V → List ab_Ob → Prop, ab_Ct d 0 0 mX4_advance [ab_O 0] [(ab_pa v2 5 r4 1), w1] Q5 ∧ (∀ v6 : ab_Ob, Q5 none [v6, w1] → (∃ Q7 : Option ab_V → List ab_Ob → Prop, ab_Ct d 0 0 mX4_checkWhole [ab_O 0, ab_I 0, ab_I 99] [v6, w1] Q7 ∧ (∀ r8 : Int, Q7 (some (ab_I r8)) [v6, w1] → ((r8 = 0 → ((0 ≤ r4 ∧ r4 < (w1.2 6).1) ∧ (∃ Q9 : Option ab_V → List ab_Ob → Prop, ab_Ct d 0 0 mX4_advance [ab_O 0] [v6, (ab_pa w1 6 r4 (v6.1 9))] Q9 ∧ (∀ v10 : ab_Ob, Q9 none [v10, (ab_pa w1 6 r4 (v6.1 9))] → Post (some (ab_I 0)) [v10, (ab_pa w1 6 r4 (v6.1 9))])))) ∧ (¬ r8 = 0 → Post (some (ab_I r8)) [v6, w1])))))))) ∧ (¬ ((v2.2 5).2 r4) = 0 → Post (some (ab_I 3)) [v2, w1])))) ∧ (r4 = (-1) → Post (some (ab_I 1)) [v2, w1]))))))) :
    ab_J x 0 [some (ab_O 0), none, none] [] [w0, w1] kc ks := ab_go hx kX4_readRule.2 42 [] 0 h
def mX4_readLine : ab_M := ((yX4_readLine, cX4_readLine, 1, (some .int)), ([4, 5], [(0, 0), (0, 1)], [true, true], false, false, 0), (false, 4, 0))
def rX4_readLine : List ab_R := [(0, .aload_n 0, 1, 0, 0, 0, [], none),
  (1, .ldc 77, 2, 0, 0, 1, [], none),
  (3, .invokevirtual 79, 3, 0, 0, 0, [], some mX4_says),
  (6, .ifCond .eq 19, 3, 0, 0, 0, [25], none),
  (9, .aload_n 0, 1, 0, 0, 0, [], none),
  (10, .getfield 29, 3, 4, 4, 0, [], none),
  (13, .ifCond .eq 7, 3, 0, 0, 0, [20], none),
  (16, .iconst 3, 1, 0, 0, 0, [], none),
  (17, .goto 7, 3, 0, 0, 0, [24], none),
  (20, .aload_n 0, 1, 0, 0, 0, [], none),
  (21, .invokevirtual 83, 3, 0, 0, 0, [], some mX4_readPiece),
  (24, .ireturn, 1, 0, 0, 0, [], none),
  (25, .aload_n 0, 1, 0, 0, 0, [], none),
  (26, .ldc 86, 2, 0, 1, 1, [], none),
  (28, .invokevirtual 79, 3, 0, 0, 0, [], some mX4_says),
  (31, .ifCond .eq 35, 3, 0, 0, 0, [66], none),
  (34, .aload_n 0, 1, 0, 0, 0, [], none),
  (35, .getfield 29, 3, 4, 4, 0, [], none),
  (38, .ifCond .ne 7, 3, 0, 0, 0, [45], none),
  (41, .iconst 5, 1, 0, 0, 0, [], none),
  (42, .goto 23, 3, 0, 0, 0, [65], none),
  (45, .aload_n 0, 1, 0, 0, 0, [], none),
  (46, .getfield 25, 3, 4, 3, 0, [], none),
  (49, .getfield 74, 3, 5, 3, 0, [], none),
  (52, .bipush 24, 2, 0, 0, 0, [], none),
  (54, .if_icmp .lt 7, 3, 0, 0, 0, [61], none),
  (57, .iconst 4, 1, 0, 0, 0, [], none),
  (58, .goto 7, 3, 0, 0, 0, [65], none),
  (61, .aload_n 0, 1, 0, 0, 0, [], none),
  (62, .invokevirtual 88, 3, 0, 0, 0, [], some mX4_readNote),
  (65, .ireturn, 1, 0, 0, 0, [], none),
  (66, .aload_n 0, 1, 0, 0, 0, [], none),
  (67, .ldc 91, 2, 0, 2, 1, [], none),
  (69, .invokevirtual 79, 3, 0, 0, 0, [], some mX4_says),
  (72, .ifCond .eq 19, 3, 0, 0, 0, [91], none),
  (75, .aload_n 0, 1, 0, 0, 0, [], none),
  (76, .getfield 29, 3, 4, 4, 0, [], none),
  (79, .ifCond .ne 7, 3, 0, 0, 0, [86], none),
  (82, .iconst 5, 1, 0, 0, 0, [], none),
  (83, .goto 7, 3, 0, 0, 0, [90], none),
  (86, .aload_n 0, 1, 0, 0, 0, [], none),
  (87, .invokevirtual 93, 3, 0, 0, 0, [], some mX4_readRule),
  (90, .ireturn, 1, 0, 0, 0, [], none),
  (91, .iconst 1, 1, 0, 0, 0, [], none),
  (92, .ireturn, 1, 0, 0, 0, [], none)]
set_option maxRecDepth 100000 in
theorem kX4_readLine : ab_def_ok mX4_readLine rX4_readLine := ⟨ab_mok_of 487 100 486 5 (by decide +kernel), [0, 0, 489, 0, 0, 196, 0, 0, 0, 0, 541, 0, 0, 0, 489, 0, 0, 196, 0, 0, 0, 0, 195, 150, 0, 0, 0, 0, 0, 557, 0, 0, 0, 489, 0, 0, 196, 0, 0, 0, 0, 567, 0, 0, 0], by decide +kernel⟩
set_option maxRecDepth 100000 in
theorem vX4_readLine_0 {x : ab_Cx} {d mc ms : Nat} {Post : Option ab_V → List ab_Ob → Prop} (hx : ab_At x mX4_readLine d mc ms Post) (w0 w1 : ab_Ob) (kc ks : Nat)
    (h : (∃ Q1 : Option ab_V → List ab_Ob → Prop, ab_Ct d 0 0 mX4_says [ab_O 0, ab_S 0] [w0, w1] Q1 ∧ (∀ r2 : Int, Q1 (some (ab_I r2)) [w0, w1] → ((r2 = 0 → (∃ Q3 : Option ab_V → List ab_Ob → Prop, ab_Ct d 0 0 mX4_says [ab_O 0, ab_S 1] [w0, w1] Q3 ∧ (∀ r4 : Int, Q3 (some (ab_I r4)) [w0, w1] → ((r4 = 0 → (∃ Q5 : Option ab_V → List ab_Ob → Prop, ab_Ct d 0 0 mX4_says [ab_O 0, ab_S 2] [w0, w1] Q5 ∧ (∀ r6 : Int, Q5 (some (ab_I r6)) [w0, w1] → ((r6 = 0 → Post (some (ab_I 1)) [w0, w1]) ∧ (¬ r6 = 0 → ((¬ (w0.1 4) = 0 → (∃ Q7 : Option ab_V → List ab_Ob → Prop, ab_Ct d 0 0 mX4_readRule [ab_O 0] [w0, w1] Q7 ∧ (∀ r8 : Int, ∀ v9 : ab_Ob, ∀ v10 : ab_Ob, Q7 (some (ab_I r8)) [v9, v10] → Post (some (ab_I r8)) [v9, v10]))) ∧ ((w0.1 4) = 0 → Post (some (ab_I 5)) [w0, w1]))))))) ∧ (¬ r4 = 0 → ((¬ (w0.1 4) = 0 → (((w1.1 3) < 24 → (∃ Q11 : Option ab_V → List ab_Ob → Prop, ab_Ct d 0 0 mX4_readNote [ab_O 0] [w0, w1] Q11 ∧ (∀ r12 : Int, ∀ v13 : ab_Ob, ∀ v14 : ab_Ob, Q11 (some (ab_I r12)) [v13, v14] → Post (some (ab_I r12)) [v13, v14]))) ∧ (¬ (w1.1 3) < 24 → Post (some (ab_I 4)) [w0, w1]))) ∧ ((w0.1 4) = 0 → Post (some (ab_I 5)) [w0, w1]))))))) ∧ (¬ r2 = 0 → (((w0.1 4) = 0 → (∃ Q15 : Option ab_V → List ab_Ob → Prop, ab_Ct d 0 0 mX4_readPiece [ab_O 0] [w0, w1] Q15 ∧ (∀ r16 : Int, ∀ v17 : ab_Ob, ∀ v18 : ab_Ob, Q15 (some (ab_I r16)) [v17, v18] → Post (some (ab_I r16)) [v17, v18]))) ∧ (¬ (w0.1 4) = 0 → Post (some (ab_I 3)) [w0, w1]))))))) :
    ab_J x 0 [some (ab_O 0)] [] [w0, w1] kc ks := ab_go hx kX4_readLine.2 23 [] 0 h
def mX4_readLines : ab_M := ((yX4_readLines, cX4_readLines, 3, (some .int)), ([4, 5], [(0, 0), (0, 1)], [true, true], false, false, 0), (false, 4, 0))
def rX4_readLines : List ab_R := [(0, .iconst 0, 1, 0, 0, 0, [], none),
  (1, .istore_n 1, 1, 0, 0, 0, [], none),
  (2, .iload_n 1, 1, 0, 0, 0, [], none),
  (3, .aload_n 0, 1, 0, 0, 0, [], none),
  (4, .getfield 19, 3, 4, 2, 0, [], none),
  (7, .if_icmp .gt 58, 3, 0, 0, 0, [65], none),
  (10, .aload_n 0, 1, 0, 0, 0, [], none),
  (11, .invokevirtual 68, 3, 0, 0, 0, [], some mX4_advance),
  (14, .aload_n 0, 1, 0, 0, 0, [], none),
  (15, .invokevirtual 71, 3, 0, 0, 0, [], some mX4_readLine),
  (18, .istore_n 2, 1, 0, 0, 0, [], none),
  (19, .iload_n 2, 1, 0, 0, 0, [], none),
  (20, .ifCond .eq 5, 3, 0, 0, 0, [25], none),
  (23, .iload_n 2, 1, 0, 0, 0, [], none),
  (24, .ireturn, 1, 0, 0, 0, [], none),
  (25, .aload_n 0, 1, 0, 0, 0, [], none),
  (26, .getfield 37, 3, 4, 6, 0, [], none),
  (29, .iconst 1, 1, 0, 0, 0, [], none),
  (30, .if_icmp .ne 19, 3, 0, 0, 0, [49], none),
  (33, .aload_n 0, 1, 0, 0, 0, [], none),
  (34, .getfield 25, 3, 4, 3, 0, [], none),
  (37, .getfield 74, 3, 5, 3, 0, [], none),
  (40, .ifCond .le 7, 3, 0, 0, 0, [47], none),
  (43, .iconst 0, 1, 0, 0, 0, [], none),
  (44, .goto 4, 3, 0, 0, 0, [48], none),
  (47, .iconst 5, 1, 0, 0, 0, [], none),
  (48, .ireturn, 1, 0, 0, 0, [], none),
  (49, .aload_n 0, 1, 0, 0, 0, [], none),
  (50, .getfield 37, 3, 4, 6, 0, [], none),
  (53, .iconst 4, 1, 0, 0, 0, [], none),
  (54, .if_icmp .eq 5, 3, 0, 0, 0, [59], none),
  (57, .iconst 1, 1, 0, 0, 0, [], none),
  (58, .ireturn, 1, 0, 0, 0, [], none),
  (59, .iinc 1 1, 3, 0, 0, 0, [], none),
  (62, .goto (-60), 3, 0, 0, 0, [2], none),
  (65, .iconst 1, 1, 0, 0, 0, [], none),
  (66, .ireturn, 1, 0, 0, 0, [], none)]
set_option maxRecDepth 100000 in
theorem kX4_readLines : ab_def_ok mX4_readLines rX4_readLines := ⟨ab_mok_of 471 100 470 1 (by decide +kernel), [0, 0, 0, 0, 194, 0, 0, 472, 0, 484, 0, 0, 0, 0, 0, 0, 198, 0, 0, 0, 195, 150, 0, 0, 0, 0, 0, 0, 198, 0, 0, 0, 0, 0, 0, 0, 0], by decide +kernel⟩
set_option maxRecDepth 100000 in
theorem vX4_readLines_0 {x : ab_Cx} {d mc ms : Nat} {Post : Option ab_V → List ab_Ob → Prop} (hx : ab_At x mX4_readLines d mc ms Post) (w0 w1 : ab_Ob) (kc ks : Nat)
    (h : ab_J x 2 [some (ab_O 0), some (ab_I 0), none] [] [w0, w1] kc ks) :
    ab_J x 0 [some (ab_O 0), none, none] [] [w0, w1] kc ks := ab_go hx kX4_readLines.2 7 [(2, [true, true, false])] 0 h
set_option maxRecDepth 100000 in
theorem vX4_readLines_2 {x : ab_Cx} {d mc ms : Nat} {Post : Option ab_V → List ab_Ob → Prop} (hx : ab_At x mX4_readLines d mc ms Post) (l1 : Int) (w0 w1 : ab_Ob) (kc ks : Nat)
    (h : (((w0.1 2) < l1 → Post (some (ab_I 1)) [w0, w1]) ∧ (¬ (w0.1 2) < l1 → (∃ Q1 : Option ab_V → List ab_Ob → Prop, ab_Ct d 0 0 mX4_advance [ab_O 0] [w0, w1] Q1 ∧ (∀ v2 : ab_Ob, Q1 none [v2, w1] → (∃ Q3 : Option ab_V → List ab_Ob → Prop, ab_Ct d 0 0 mX4_readLine [ab_O 0] [v2, w1] Q3 ∧ (∀ r4 : Int, ∀ v5 : ab_Ob, ∀ v6 : ab_Ob, Q3 (some (ab_I r4)) [v5, v6] → ((r4 = 0 → ((¬ (v5.1 6) = 1 → (((v5.1 6) = 4 → ((-2147483648 ≤ l1 + 1 ∧ l1 + 1 ≤ 2147483647) ∧ ab_J x 2 [some (ab_O 0), some (ab_I (l1 + 1)), none] [] [v5, v6] kc ks)) ∧ (¬ (v5.1 6) = 4 → Post (some (ab_I 1)) [v5, v6]))) ∧ ((v5.1 6) = 1 → (((v6.1 3) ≤ 0 → Post (some (ab_I 5)) [v5, v6]) ∧ (¬ (v6.1 3) ≤ 0 → Post (some (ab_I 0)) [v5, v6]))))) ∧ (¬ r4 = 0 → Post (some (ab_I r4)) [v5, v6]))))))))) :
    ab_J x 2 [some (ab_O 0), some (ab_I l1), none] [] [w0, w1] kc ks := ab_go hx kX4_readLines.2 26 [(2, [true, true, false])] 2 h
def mX4_read : ab_M := ((yX4_read, cX4_read, 3, none), ([4, 5], [(0, 0), (0, 1)], [true, true], false, false, 0), (false, 4, 1))
def rX4_read : List ab_R := [(0, .aload_n 0, 1, 0, 0, 0, [], none),
  (1, .iload_n 1, 1, 0, 0, 0, [], none),
  (2, .aload_n 0, 1, 0, 0, 0, [], none),
  (3, .getfield 9, 3, 4, 0, 0, [], none),
  (6, .invokestatic 52, 3, 0, 0, 11, [], none),
  (9, .putfield 19, 3, 4, 2, 0, [], none),
  (12, .aload_n 0, 1, 0, 0, 0, [], none),
  (13, .iconst 0, 1, 0, 0, 0, [], none),
  (14, .putfield 9, 3, 4, 0, 0, [], none),
  (17, .aload_n 0, 1, 0, 0, 0, [], none),
  (18, .iconst 0, 1, 0, 0, 0, [], none),
  (19, .putfield 43, 3, 4, 8, 0, [], none),
  (22, .aload_n 0, 1, 0, 0, 0, [], none),
  (23, .iconst 0, 1, 0, 0, 0, [], none),
  (24, .putfield 29, 3, 4, 4, 0, [], none),
  (27, .iconst 0, 1, 0, 0, 0, [], none),
  (28, .istore_n 2, 1, 0, 0, 0, [], none),
  (29, .iload_n 2, 1, 0, 0, 0, [], none),
  (30, .bipush 6, 2, 0, 0, 0, [], none),
  (32, .if_icmp .ge 16, 3, 0, 0, 0, [48], none),
  (35, .aload_n 0, 1, 0, 0, 0, [], none),
  (36, .getfield 33, 3, 4, 5, 0, [], none),
  (39, .iload_n 2, 1, 0, 0, 0, [], none),
  (40, .iconst 0, 1, 0, 0, 0, [], none),
  (41, .bastore, 1, 0, 0, 0, [], none),
  (42, .iinc 2 1, 3, 0, 0, 0, [], none),
  (45, .goto (-16), 3, 0, 0, 0, [29], none),
  (48, .aload_n 0, 1, 0, 0, 0, [], none),
  (49, .getfield 25, 3, 4, 3, 0, [], none),
  (52, .invokevirtual 58, 3, 0, 0, 0, [], some mX5_empty),
  (55, .aload_n 0, 1, 0, 0, 0, [], none),
  (56, .aload_n 0, 1, 0, 0, 0, [], none),
  (57, .invokevirtual 61, 3, 0, 0, 0, [], some mX4_readLines),
  (60, .putfield 49, 3, 4, 10, 0, [], none),
  (63, .aload_n 0, 1, 0, 0, 0, [], none),
  (64, .getfield 25, 3, 4, 3, 0, [], none),
  (67, .invokevirtual 65, 3, 0, 0, 0, [], some mX5_derive),
  (70, .return_, 1, 0, 0, 0, [], none)]
set_option maxRecDepth 100000 in
theorem kX4_read : ab_def_ok mX4_read rX4_read := ⟨ab_mok_of 460 100 458 459 (by decide +kernel), [0, 0, 0, 191, 461, 194, 0, 0, 191, 0, 0, 201, 0, 0, 196, 0, 0, 0, 0, 0, 0, 197, 0, 0, 0, 0, 0, 0, 195, 464, 0, 0, 468, 203, 0, 195, 580, 0], by decide +kernel⟩
set_option maxRecDepth 100000 in
theorem vX4_read_0 {x : ab_Cx} {d mc ms : Nat} {Post : Option ab_V → List ab_Ob → Prop} (hx : ab_At x mX4_read d mc ms Post) (a1 : Int) (w0 w1 : ab_Ob) (kc ks : Nat)
    (h : (((0 : Int) = 0 ∨ (0 : Int) = 1) ∧ ab_J x 29 [some (ab_O 0), none, some (ab_I 0)] [] [(ab_pf (ab_pf (ab_pf (ab_pf w0 2 (if (w0.1 0) < a1 then (w0.1 0) else a1)) 0 0) 8 0) 4 0), w1] kc ks)) :
    ab_J x 0 [some (ab_O 0), some (ab_I a1), none] [] [w0, w1] kc ks := ab_go hx kX4_read.2 22 [(29, [true, false, true])] 0 h
set_option maxRecDepth 100000 in
theorem vX4_read_29 {x : ab_Cx} {d mc ms : Nat} {Post : Option ab_V → List ab_Ob → Prop} (hx : ab_At x mX4_read d mc ms Post) (l2 : Int) (w0 w1 : ab_Ob) (kc ks : Nat)
    (h : ((6 ≤ l2 → (∃ Q1 : Option ab_V → List ab_Ob → Prop, ab_Ct d 0 0 mX5_empty [ab_O 0] [w1] Q1 ∧ (∀ v2 : ab_Ob, Q1 none [v2] → (∃ Q3 : Option ab_V → List ab_Ob → Prop, ab_Ct d 0 0 mX4_readLines [ab_O 0] [w0, v2] Q3 ∧ (∀ r4 : Int, ∀ v5 : ab_Ob, ∀ v6 : ab_Ob, Q3 (some (ab_I r4)) [v5, v6] → (∃ Q7 : Option ab_V → List ab_Ob → Prop, ab_Ct d 0 0 mX5_derive [ab_O 0] [v6] Q7 ∧ (∀ v8 : ab_Ob, Q7 none [v8] → Post none [(ab_pf v5 10 r4), v8]))))))) ∧ (¬ 6 ≤ l2 → ((0 ≤ l2 ∧ l2 < (w0.2 5).1) ∧ ((0 : Int) = 0 ∨ (0 : Int) = 1) ∧ ((-2147483648 ≤ l2 + 1 ∧ l2 + 1 ≤ 2147483647) ∧ ab_J x 29 [some (ab_O 0), none, some (ab_I (l2 + 1))] [] [(ab_pa w0 5 l2 0), w1] kc ks))))) :
    ab_J x 29 [some (ab_O 0), none, some (ab_I l2)] [] [w0, w1] kc ks := ab_go hx kX4_read.2 18 [(29, [true, false, true])] 29 h
