def mX9_laysTree : ab_M := ((yX9_laysTree, cX9_laysTree, 7, none), ([9], [(0, 0)], [true], false, false, 0), (false, 9, 0))
def rX9_laysTree : List ab_R := [(0, .aload_n 0, 1, 0, 0, 0, [], none),
  (1, .iconst 0, 1, 0, 0, 0, [], none),
  (2, .putfield 324, 3, 9, 40, 0, [], none),
  (5, .aload_n 0, 1, 0, 0, 0, [], none),
  (6, .iconst 0, 1, 0, 0, 0, [], none),
  (7, .putfield 321, 3, 9, 41, 0, [], none),
  (10, .iconst 0, 1, 0, 0, 0, [], none),
  (11, .istore_n 1, 1, 0, 0, 0, [], none),
  (12, .iload_n 1, 1, 0, 0, 0, [], none),
  (13, .bipush 24, 2, 0, 0, 0, [], none),
  (15, .if_icmp .ge 17, 3, 0, 0, 0, [32], none),
  (18, .aload_n 0, 1, 0, 0, 0, [], none),
  (19, .getfield 58, 3, 9, 35, 0, [], none),
  (22, .iload_n 1, 1, 0, 0, 0, [], none),
  (23, .bipush 24, 2, 0, 0, 0, [], none),
  (25, .iastore, 1, 0, 0, 0, [], none),
  (26, .iinc 1 1, 3, 0, 0, 0, [], none),
  (29, .goto (-17), 3, 0, 0, 0, [12], none),
  (32, .aload_n 0, 1, 0, 0, 0, [], none),
  (33, .iconst 0, 1, 0, 0, 0, [], none),
  (34, .aload_n 0, 1, 0, 0, 0, [], none),
  (35, .getfield 246, 3, 9, 8, 0, [], none),
  (38, .iconst 1, 1, 0, 0, 0, [], none),
  (39, .isub, 1, 0, 0, 0, [], none),
  (40, .aload_n 0, 1, 0, 0, 0, [], none),
  (41, .iconst 0, 1, 0, 0, 0, [], none),
  (42, .aload_n 0, 1, 0, 0, 0, [], none),
  (43, .getfield 246, 3, 9, 8, 0, [], none),
  (46, .iconst 1, 1, 0, 0, 0, [], none),
  (47, .isub, 1, 0, 0, 0, [], none),
  (48, .invokevirtual 318, 3, 0, 0, 0, [], some mX9_headOf),
  (51, .iconst 0, 1, 0, 0, 0, [], none),
  (52, .invokevirtual 327, 3, 0, 0, 0, [], some mX9_goes),
  (55, .aload_n 0, 1, 0, 0, 0, [], none),
  (56, .getfield 321, 3, 9, 41, 0, [], none),
  (59, .ifCond .le 209, 3, 0, 0, 0, [268], none),
  (62, .aload_n 0, 1, 0, 0, 0, [], none),
  (63, .dup, 1, 0, 0, 0, [], none),
  (64, .getfield 321, 3, 9, 41, 0, [], none),
  (67, .iconst 1, 1, 0, 0, 0, [], none),
  (68, .isub, 1, 0, 0, 0, [], none),
  (69, .putfield 321, 3, 9, 41, 0, [], none),
  (72, .aload_n 0, 1, 0, 0, 0, [], none),
  (73, .getfield 61, 3, 9, 36, 0, [], none),
  (76, .aload_n 0, 1, 0, 0, 0, [], none),
  (77, .getfield 321, 3, 9, 41, 0, [], none),
  (80, .iaload, 1, 0, 0, 0, [], none),
  (81, .istore_n 1, 1, 0, 0, 0, [], none),
  (82, .aload_n 0, 1, 0, 0, 0, [], none),
  (83, .getfield 64, 3, 9, 37, 0, [], none),
  (86, .aload_n 0, 1, 0, 0, 0, [], none),
  (87, .getfield 321, 3, 9, 41, 0, [], none),
  (90, .iaload, 1, 0, 0, 0, [], none),
  (91, .istore_n 2, 1, 0, 0, 0, [], none),
  (92, .aload_n 0, 1, 0, 0, 0, [], none),
  (93, .getfield 67, 3, 9, 38, 0, [], none),
  (96, .aload_n 0, 1, 0, 0, 0, [], none),
  (97, .getfield 321, 3, 9, 41, 0, [], none),
  (100, .iaload, 1, 0, 0, 0, [], none),
  (101, .istore_n 3, 1, 0, 0, 0, [], none),
  (102, .aload_n 0, 1, 0, 0, 0, [], none),
  (103, .getfield 70, 3, 9, 39, 0, [], none),
  (106, .aload_n 0, 1, 0, 0, 0, [], none),
  (107, .getfield 321, 3, 9, 41, 0, [], none),
  (110, .iaload, 1, 0, 0, 0, [], none),
  (111, .istore 4, 2, 0, 0, 0, [], none),
  (113, .aload_n 0, 1, 0, 0, 0, [], none),
  (114, .getfield 46, 3, 9, 31, 0, [], none),
  (117, .aload_n 0, 1, 0, 0, 0, [], none),
  (118, .getfield 324, 3, 9, 40, 0, [], none),
  (121, .iload_n 1, 1, 0, 0, 0, [], none),
  (122, .iastore, 1, 0, 0, 0, [], none),
  (123, .aload_n 0, 1, 0, 0, 0, [], none),
  (124, .getfield 49, 3, 9, 32, 0, [], none),
  (127, .aload_n 0, 1, 0, 0, 0, [], none),
  (128, .getfield 324, 3, 9, 40, 0, [], none),
  (131, .iload_n 2, 1, 0, 0, 0, [], none),
  (132, .iastore, 1, 0, 0, 0, [], none),
  (133, .aload_n 0, 1, 0, 0, 0, [], none),
  (134, .getfield 52, 3, 9, 33, 0, [], none),
  (137, .aload_n 0, 1, 0, 0, 0, [], none),
  (138, .getfield 324, 3, 9, 40, 0, [], none),
  (141, .iload_n 3, 1, 0, 0, 0, [], none),
  (142, .iastore, 1, 0, 0, 0, [], none),
  (143, .aload_n 0, 1, 0, 0, 0, [], none),
  (144, .getfield 55, 3, 9, 34, 0, [], none),
  (147, .aload_n 0, 1, 0, 0, 0, [], none),
  (148, .getfield 324, 3, 9, 40, 0, [], none),
  (151, .iload 4, 2, 0, 0, 0, [], none),
  (153, .iastore, 1, 0, 0, 0, [], none),
  (154, .aload_n 0, 1, 0, 0, 0, [], none),
  (155, .dup, 1, 0, 0, 0, [], none),
  (156, .getfield 324, 3, 9, 40, 0, [], none),
  (159, .iconst 1, 1, 0, 0, 0, [], none),
  (160, .iadd, 1, 0, 0, 0, [], none),
  (161, .putfield 324, 3, 9, 40, 0, [], none),
  (164, .iload 4, 2, 0, 0, 0, [], none),
  (166, .aload_n 0, 1, 0, 0, 0, [], none),
  (167, .getfield 58, 3, 9, 35, 0, [], none),
  (170, .iload_n 3, 1, 0, 0, 0, [], none),
  (171, .iaload, 1, 0, 0, 0, [], none),
  (172, .if_icmp .ge 11, 3, 0, 0, 0, [183], none),
  (175, .aload_n 0, 1, 0, 0, 0, [], none),
  (176, .getfield 58, 3, 9, 35, 0, [], none),
  (179, .iload_n 3, 1, 0, 0, 0, [], none),
  (180, .iload 4, 2, 0, 0, 0, [], none),
  (182, .iastore, 1, 0, 0, 0, [], none),
  (183, .iload_n 1, 1, 0, 0, 0, [], none),
  (184, .iload_n 2, 1, 0, 0, 0, [], none),
  (185, .if_icmp .ne 6, 3, 0, 0, 0, [191], none),
  (188, .goto (-133), 3, 0, 0, 0, [55], none),
  (191, .aload_n 0, 1, 0, 0, 0, [], none),
  (192, .getfield 36, 3, 9, 28, 0, [], none),
  (195, .iload_n 1, 1, 0, 0, 0, [], none),
  (196, .iload_n 2, 1, 0, 0, 0, [], none),
  (197, .iload_n 3, 1, 0, 0, 0, [], none),
  (198, .invokestatic 289, 3, 0, 0, 0, [], some mX9_cube),
  (201, .iaload, 1, 0, 0, 0, [], none),
  (202, .istore 5, 2, 0, 0, 0, [], none),
  (204, .aload_n 0, 1, 0, 0, 0, [], none),
  (205, .getfield 39, 3, 9, 29, 0, [], none),
  (208, .iload_n 1, 1, 0, 0, 0, [], none),
  (209, .iload_n 2, 1, 0, 0, 0, [], none),
  (210, .iload_n 3, 1, 0, 0, 0, [], none),
  (211, .invokestatic 289, 3, 0, 0, 0, [], some mX9_cube),
  (214, .iaload, 1, 0, 0, 0, [], none),
  (215, .istore 6, 2, 0, 0, 0, [], none),
  (217, .aload_n 0, 1, 0, 0, 0, [], none),
  (218, .iload 5, 2, 0, 0, 0, [], none),
  (220, .iconst 1, 1, 0, 0, 0, [], none),
  (221, .iadd, 1, 0, 0, 0, [], none),
  (222, .iload_n 2, 1, 0, 0, 0, [], none),
  (223, .iload_n 3, 1, 0, 0, 0, [], none),
  (224, .iload 5, 2, 0, 0, 0, [], none),
  (226, .if_icmp .gt 8, 3, 0, 0, 0, [234], none),
  (229, .iload 6, 2, 0, 0, 0, [], none),
  (231, .goto 4, 3, 0, 0, 0, [235], none),
  (234, .iload_n 3, 1, 0, 0, 0, [], none),
  (235, .iload 4, 2, 0, 0, 0, [], none),
  (237, .iconst 1, 1, 0, 0, 0, [], none),
  (238, .iadd, 1, 0, 0, 0, [], none),
  (239, .invokevirtual 327, 3, 0, 0, 0, [], some mX9_goes),
  (242, .aload_n 0, 1, 0, 0, 0, [], none),
  (243, .iload_n 1, 1, 0, 0, 0, [], none),
  (244, .iload 5, 2, 0, 0, 0, [], none),
  (246, .iload_n 3, 1, 0, 0, 0, [], none),
  (247, .iload 5, 2, 0, 0, 0, [], none),
  (249, .if_icmp .gt 7, 3, 0, 0, 0, [256], none),
  (252, .iload_n 3, 1, 0, 0, 0, [], none),
  (253, .goto 5, 3, 0, 0, 0, [258], none),
  (256, .iload 6, 2, 0, 0, 0, [], none),
  (258, .iload 4, 2, 0, 0, 0, [], none),
  (260, .iconst 1, 1, 0, 0, 0, [], none),
  (261, .iadd, 1, 0, 0, 0, [], none),
  (262, .invokevirtual 327, 3, 0, 0, 0, [], some mX9_goes),
  (265, .goto (-210), 3, 0, 0, 0, [55], none),
  (268, .return_, 1, 0, 0, 0, [], none)]
set_option maxRecDepth 100000 in
theorem kX9_laysTree : ab_def_ok mX9_laysTree rX9_laysTree := ⟨ab_mok_of 1500 108 1499 71 (by decide +kernel), [0, 0, 1232, 0, 0, 1233, 0, 0, 0, 0, 0, 0, 1227, 0, 0, 0, 0, 0, 0, 0, 0, 1200, 0, 0, 0, 0, 0, 1200, 0, 0, 1501, 0, 1505, 0, 1233, 0, 0, 0, 1233, 0, 0, 1233, 0, 1228, 0, 1233, 0, 0, 0, 1229, 0, 1233, 0, 0, 0, 1230, 0, 1233, 0, 0, 0, 1231, 0, 1233, 0, 0, 0, 1223, 0, 1232, 0, 0, 0, 1224, 0, 1232, 0, 0, 0, 1225, 0, 1232, 0, 0, 0, 1226, 0, 1232, 0, 0, 0, 0, 1232, 0, 0, 1232, 0, 0, 1227, 0, 0, 0, 0, 1227, 0, 0, 0, 0, 0, 0, 0, 0, 1220, 0, 0, 0, 1470, 0, 0, 0, 1221, 0, 0, 0, 1470, 0, 0, 0, 0, 0, 0, 0, 0, 0, 0, 0, 0, 0, 0, 0, 0, 1505, 0, 0, 0, 0, 0, 0, 0, 0, 0, 0, 0, 0, 1505, 0, 0], by decide +kernel⟩
set_option maxRecDepth 100000 in
theorem vX9_laysTree_0 {x : ab_Cx} {d mc ms : Nat} {Post : Option ab_V → List ab_Ob → Prop} (hx : ab_At x mX9_laysTree d mc ms Post) (w0 : ab_Ob) (kc ks : Nat)
    (h : ab_J x 12 [some (ab_O 0), some (ab_I 0), none, none, none, none, none] [] [(ab_pf (ab_pf w0 40 0) 41 0)] kc ks) :
    ab_J x 0 [some (ab_O 0), none, none, none, none, none, none] [] [w0] kc ks := ab_go hx kX9_laysTree.2 13 [(12, [true, true, false, false, false, false, false]), (55, [true, false, false, false, false, false, false]), (183, [true, true, true, true, true, false, false]), (235, [true, true, false, true, true, true, true]), (258, [true, false, false, false, true, false, false])] 0 h
set_option maxRecDepth 100000 in
theorem vX9_laysTree_12 {x : ab_Cx} {d mc ms : Nat} {Post : Option ab_V → List ab_Ob → Prop} (hx : ab_At x mX9_laysTree d mc ms Post) (l1 : Int) (w0 : ab_Ob) (kc ks : Nat)
    (h : ((24 ≤ l1 → ((-2147483648 ≤ (w0.1 8) - 1 ∧ (w0.1 8) - 1 ≤ 2147483647) ∧ ((-2147483648 ≤ (w0.1 8) - 1 ∧ (w0.1 8) - 1 ≤ 2147483647) ∧ (∃ Q1 : Option ab_V → List ab_Ob → Prop, ab_Ct d 0 0 mX9_headOf [ab_O 0, ab_I 0, ab_I ((w0.1 8) - 1)] [w0] Q1 ∧ (∀ r2 : Int, Q1 (some (ab_I r2)) [w0] → (∃ Q3 : Option ab_V → List ab_Ob → Prop, ab_Ct d 0 0 mX9_goes [ab_O 0, ab_I 0, ab_I ((w0.1 8) - 1), ab_I r2, ab_I 0] [w0] Q3 ∧ (∀ v4 : ab_Ob, Q3 none [v4] → ab_J x 55 [some (ab_O 0), none, none, none, none, none, none] [] [v4] kc ks))))))) ∧ (¬ 24 ≤ l1 → ((0 ≤ l1 ∧ l1 < (w0.2 35).1) ∧ ((-2147483648 ≤ l1 + 1 ∧ l1 + 1 ≤ 2147483647) ∧ ab_J x 12 [some (ab_O 0), some (ab_I (l1 + 1)), none, none, none, none, none] [] [(ab_pa w0 35 l1 24)] kc ks))))) :
    ab_J x 12 [some (ab_O 0), some (ab_I l1), none, none, none, none, none] [] [w0] kc ks := ab_go hx kX9_laysTree.2 23 [(12, [true, true, false, false, false, false, false]), (55, [true, false, false, false, false, false, false]), (183, [true, true, true, true, true, false, false]), (235, [true, true, false, true, true, true, true]), (258, [true, false, false, false, true, false, false])] 12 h
set_option maxRecDepth 100000 in
theorem vX9_laysTree_55 {x : ab_Cx} {d mc ms : Nat} {Post : Option ab_V → List ab_Ob → Prop} (hx : ab_At x mX9_laysTree d mc ms Post) (w0 : ab_Ob) (kc ks : Nat)
    (h : (((w0.1 41) ≤ 0 → Post none [w0]) ∧ (¬ (w0.1 41) ≤ 0 → ((-2147483648 ≤ (w0.1 41) - 1 ∧ (w0.1 41) - 1 ≤ 2147483647) ∧ ((0 ≤ ((w0.1 41) - 1) ∧ ((w0.1 41) - 1) < (w0.2 36).1) ∧ ((0 ≤ ((w0.1 41) - 1) ∧ ((w0.1 41) - 1) < (w0.2 37).1) ∧ ((0 ≤ ((w0.1 41) - 1) ∧ ((w0.1 41) - 1) < (w0.2 38).1) ∧ ((0 ≤ ((w0.1 41) - 1) ∧ ((w0.1 41) - 1) < (w0.2 39).1) ∧ ((0 ≤ (w0.1 40) ∧ (w0.1 40) < (w0.2 31).1) ∧ ((0 ≤ (w0.1 40) ∧ (w0.1 40) < (w0.2 32).1) ∧ ((0 ≤ (w0.1 40) ∧ (w0.1 40) < (w0.2 33).1) ∧ ((0 ≤ (w0.1 40) ∧ (w0.1 40) < (w0.2 34).1) ∧ ((-2147483648 ≤ (w0.1 40) + 1 ∧ (w0.1 40) + 1 ≤ 2147483647) ∧ ((0 ≤ ((w0.2 38).2 ((w0.1 41) - 1)) ∧ ((w0.2 38).2 ((w0.1 41) - 1)) < (w0.2 35).1) ∧ ((((w0.2 35).2 ((w0.2 38).2 ((w0.1 41) - 1))) ≤ ((w0.2 39).2 ((w0.1 41) - 1)) → ab_J x 183 [some (ab_O 0), some (ab_I ((w0.2 36).2 ((w0.1 41) - 1))), some (ab_I ((w0.2 37).2 ((w0.1 41) - 1))), some (ab_I ((w0.2 38).2 ((w0.1 41) - 1))), some (ab_I ((w0.2 39).2 ((w0.1 41) - 1))), none, none] [] [(ab_pf (ab_pa (ab_pa (ab_pa (ab_pa (ab_pf w0 41 ((w0.1 41) - 1)) 31 (w0.1 40) ((w0.2 36).2 ((w0.1 41) - 1))) 32 (w0.1 40) ((w0.2 37).2 ((w0.1 41) - 1))) 33 (w0.1 40) ((w0.2 38).2 ((w0.1 41) - 1))) 34 (w0.1 40) ((w0.2 39).2 ((w0.1 41) - 1))) 40 ((w0.1 40) + 1))] kc ks) ∧ (¬ ((w0.2 35).2 ((w0.2 38).2 ((w0.1 41) - 1))) ≤ ((w0.2 39).2 ((w0.1 41) - 1)) → ((0 ≤ ((w0.2 38).2 ((w0.1 41) - 1)) ∧ ((w0.2 38).2 ((w0.1 41) - 1)) < (w0.2 35).1) ∧ ab_J x 183 [some (ab_O 0), some (ab_I ((w0.2 36).2 ((w0.1 41) - 1))), some (ab_I ((w0.2 37).2 ((w0.1 41) - 1))), some (ab_I ((w0.2 38).2 ((w0.1 41) - 1))), some (ab_I ((w0.2 39).2 ((w0.1 41) - 1))), none, none] [] [(ab_pa (ab_pf (ab_pa (ab_pa (ab_pa (ab_pa (ab_pf w0 41 ((w0.1 41) - 1)) 31 (w0.1 40) ((w0.2 36).2 ((w0.1 41) - 1))) 32 (w0.1 40) ((w0.2 37).2 ((w0.1 41) - 1))) 33 (w0.1 40) ((w0.2 38).2 ((w0.1 41) - 1))) 34 (w0.1 40) ((w0.2 39).2 ((w0.1 41) - 1))) 40 ((w0.1 40) + 1)) 35 ((w0.2 38).2 ((w0.1 41) - 1)) ((w0.2 39).2 ((w0.1 41) - 1)))] kc ks))))))))))))))))) :
    ab_J x 55 [some (ab_O 0), none, none, none, none, none, none] [] [w0] kc ks := ab_go hx kX9_laysTree.2 79 [(12, [true, true, false, false, false, false, false]), (55, [true, false, false, false, false, false, false]), (183, [true, true, true, true, true, false, false]), (235, [true, true, false, true, true, true, true]), (258, [true, false, false, false, true, false, false])] 55 h
set_option maxRecDepth 100000 in
theorem vX9_laysTree_183 {x : ab_Cx} {d mc ms : Nat} {Post : Option ab_V → List ab_Ob → Prop} (hx : ab_At x mX9_laysTree d mc ms Post) (l1 l2 l3 l4 : Int) (w0 : ab_Ob) (kc ks : Nat)
    (h : ((¬ l1 = l2 → (∃ Q1 : Option ab_V → List ab_Ob → Prop, ab_Ct d 0 0 mX9_cube [ab_I l1, ab_I l2, ab_I l3] [] Q1 ∧ (∀ r2 : Int, Q1 (some (ab_I r2)) [] → ((0 ≤ r2 ∧ r2 < (w0.2 28).1) ∧ (∃ Q3 : Option ab_V → List ab_Ob → Prop, ab_Ct d 0 0 mX9_cube [ab_I l1, ab_I l2, ab_I l3] [] Q3 ∧ (∀ r4 : Int, Q3 (some (ab_I r4)) [] → ((0 ≤ r4 ∧ r4 < (w0.2 29).1) ∧ ((-2147483648 ≤ ((w0.2 28).2 r2) + 1 ∧ ((w0.2 28).2 r2) + 1 ≤ 2147483647) ∧ ((((w0.2 28).2 r2) < l3 → ab_J x 235 [some (ab_O 0), some (ab_I l1), none, some (ab_I l3), some (ab_I l4), some (ab_I ((w0.2 28).2 r2)), some (ab_I ((w0.2 29).2 r4))] [ab_I l3, ab_I l2, ab_I (((w0.2 28).2 r2) + 1), ab_O 0] [w0] kc ks) ∧ (¬ ((w0.2 28).2 r2) < l3 → ab_J x 235 [some (ab_O 0), some (ab_I l1), none, some (ab_I l3), some (ab_I l4), some (ab_I ((w0.2 28).2 r2)), some (ab_I ((w0.2 29).2 r4))] [ab_I ((w0.2 29).2 r4), ab_I l2, ab_I (((w0.2 28).2 r2) + 1), ab_O 0] [w0] kc ks)))))))))) ∧ (l1 = l2 → ab_J x 55 [some (ab_O 0), none, none, none, none, none, none] [] [w0] kc ks))) :
    ab_J x 183 [some (ab_O 0), some (ab_I l1), some (ab_I l2), some (ab_I l3), some (ab_I l4), none, none] [] [w0] kc ks := ab_go hx kX9_laysTree.2 34 [(12, [true, true, false, false, false, false, false]), (55, [true, false, false, false, false, false, false]), (183, [true, true, true, true, true, false, false]), (235, [true, true, false, true, true, true, true]), (258, [true, false, false, false, true, false, false])] 183 h
set_option maxRecDepth 100000 in
theorem vX9_laysTree_235 {x : ab_Cx} {d mc ms : Nat} {Post : Option ab_V → List ab_Ob → Prop} (hx : ab_At x mX9_laysTree d mc ms Post) (l1 l3 l4 l5 l6 t0 t1 t2 : Int) (w0 : ab_Ob) (kc ks : Nat)
    (h : ((-2147483648 ≤ l4 + 1 ∧ l4 + 1 ≤ 2147483647) ∧ (∃ Q1 : Option ab_V → List ab_Ob → Prop, ab_Ct d 0 0 mX9_goes [ab_O 0, ab_I t2, ab_I t1, ab_I t0, ab_I (l4 + 1)] [w0] Q1 ∧ (∀ v2 : ab_Ob, Q1 none [v2] → ((l5 < l3 → ab_J x 258 [some (ab_O 0), none, none, none, some (ab_I l4), none, none] [ab_I l6, ab_I l5, ab_I l1, ab_O 0] [v2] kc ks) ∧ (¬ l5 < l3 → ab_J x 258 [some (ab_O 0), none, none, none, some (ab_I l4), none, none] [ab_I l3, ab_I l5, ab_I l1, ab_O 0] [v2] kc ks)))))) :
    ab_J x 235 [some (ab_O 0), some (ab_I l1), none, some (ab_I l3), some (ab_I l4), some (ab_I l5), some (ab_I l6)] [ab_I t0, ab_I t1, ab_I t2, ab_O 0] [w0] kc ks := ab_go hx kX9_laysTree.2 17 [(12, [true, true, false, false, false, false, false]), (55, [true, false, false, false, false, false, false]), (183, [true, true, true, true, true, false, false]), (235, [true, true, false, true, true, true, true]), (258, [true, false, false, false, true, false, false])] 235 h
set_option maxRecDepth 100000 in
theorem vX9_laysTree_258 {x : ab_Cx} {d mc ms : Nat} {Post : Option ab_V → List ab_Ob → Prop} (hx : ab_At x mX9_laysTree d mc ms Post) (l4 t0 t1 t2 : Int) (w0 : ab_Ob) (kc ks : Nat)
    (h : ((-2147483648 ≤ l4 + 1 ∧ l4 + 1 ≤ 2147483647) ∧ (∃ Q1 : Option ab_V → List ab_Ob → Prop, ab_Ct d 0 0 mX9_goes [ab_O 0, ab_I t2, ab_I t1, ab_I t0, ab_I (l4 + 1)] [w0] Q1 ∧ (∀ v2 : ab_Ob, Q1 none [v2] → ab_J x 55 [some (ab_O 0), none, none, none, none, none, none] [] [v2] kc ks)))) :
    ab_J x 258 [some (ab_O 0), none, none, none, some (ab_I l4), none, none] [ab_I t0, ab_I t1, ab_I t2, ab_O 0] [w0] kc ks := ab_go hx kX9_laysTree.2 10 [(12, [true, true, false, false, false, false, false]), (55, [true, false, false, false, false, false, false]), (183, [true, true, true, true, true, false, false]), (235, [true, true, false, true, true, true, true]), (258, [true, false, false, false, true, false, false])] 258 h
def mX9_lays : ab_M := ((yX9_lays, cX9_lays, 4, none), ([9], [(0, 0)], [true], false, false, 0), (false, 9, 0))
def rX9_lays : List ab_R := [(0, .iconst 0, 1, 0, 0, 0, [], none),
  (1, .istore_n 1, 1, 0, 0, 0, [], none),
  (2, .iload_n 1, 1, 0, 0, 0, [], none),
  (3, .aload_n 0, 1, 0, 0, 0, [], none),
  (4, .getfield 246, 3, 9, 8, 0, [], none),
  (7, .if_icmp .ge 31, 3, 0, 0, 0, [38], none),
  (10, .aload_n 0, 1, 0, 0, 0, [], none),
  (11, .getfield 27, 3, 9, 25, 0, [], none),
  (14, .iload_n 1, 1, 0, 0, 0, [], none),
  (15, .aload_n 0, 1, 0, 0, 0, [], none),
  (16, .iload_n 1, 1, 0, 0, 0, [], none),
  (17, .invokevirtual 277, 3, 0, 0, 0, [], some mX9_strength),
  (20, .iastore, 1, 0, 0, 0, [], none),
  (21, .aload_n 0, 1, 0, 0, 0, [], none),
  (22, .getfield 30, 3, 9, 26, 0, [], none),
  (25, .iload_n 1, 1, 0, 0, 0, [], none),
  (26, .aload_n 0, 1, 0, 0, 0, [], none),
  (27, .iload_n 1, 1, 0, 0, 0, [], none),
  (28, .invokevirtual 280, 3, 0, 0, 0, [], some mX9_stable),
  (31, .iastore, 1, 0, 0, 0, [], none),
  (32, .iinc 1 1, 3, 0, 0, 0, [], none),
  (35, .goto (-33), 3, 0, 0, 0, [2], none),
  (38, .aload_n 0, 1, 0, 0, 0, [], none),
  (39, .getfield 246, 3, 9, 8, 0, [], none),
  (42, .iconst 1, 1, 0, 0, 0, [], none),
  (43, .isub, 1, 0, 0, 0, [], none),
  (44, .istore_n 1, 1, 0, 0, 0, [], none),
  (45, .iload_n 1, 1, 0, 0, 0, [], none),
  (46, .ifCond .lt 45, 3, 0, 0, 0, [91], none),
  (49, .iload_n 1, 1, 0, 0, 0, [], none),
  (50, .istore_n 2, 1, 0, 0, 0, [], none),
  (51, .iload_n 2, 1, 0, 0, 0, [], none),
  (52, .aload_n 0, 1, 0, 0, 0, [], none),
  (53, .getfield 246, 3, 9, 8, 0, [], none),
  (56, .if_icmp .ge 29, 3, 0, 0, 0, [85], none),
  (59, .iload_n 1, 1, 0, 0, 0, [], none),
  (60, .istore_n 3, 1, 0, 0, 0, [], none),
  (61, .iload_n 3, 1, 0, 0, 0, [], none),
  (62, .iload_n 2, 1, 0, 0, 0, [], none),
  (63, .if_icmp .gt 16, 3, 0, 0, 0, [79], none),
  (66, .aload_n 0, 1, 0, 0, 0, [], none),
  (67, .iload_n 1, 1, 0, 0, 0, [], none),
  (68, .iload_n 2, 1, 0, 0, 0, [], none),
  (69, .iload_n 3, 1, 0, 0, 0, [], none),
  (70, .invokevirtual 282, 3, 0, 0, 0, [], some mX9_laysOne),
  (73, .iinc 3 1, 3, 0, 0, 0, [], none),
  (76, .goto (-15), 3, 0, 0, 0, [61], none),
  (79, .iinc 2 1, 3, 0, 0, 0, [], none),
  (82, .goto (-31), 3, 0, 0, 0, [51], none),
  (85, .iinc 1 (-1), 3, 0, 0, 0, [], none),
  (88, .goto (-43), 3, 0, 0, 0, [45], none),
  (91, .aload_n 0, 1, 0, 0, 0, [], none),
  (92, .invokevirtual 286, 3, 0, 0, 0, [], some mX9_laysTree),
  (95, .return_, 1, 0, 0, 0, [], none)]
set_option maxRecDepth 100000 in
theorem kX9_lays : ab_def_ok mX9_lays rX9_lays := ⟨ab_mok_of 1445 108 1444 60 (by decide +kernel), [0, 0, 0, 0, 1200, 0, 0, 1217, 0, 0, 0, 1446, 0, 0, 1218, 0, 0, 0, 1458, 0, 0, 0, 0, 1200, 0, 0, 0, 0, 0, 0, 0, 0, 0, 1200, 0, 0, 0, 0, 0, 0, 0, 0, 0, 0, 1466, 0, 0, 0, 0, 0, 0, 0, 1497, 0], by decide +kernel⟩
set_option maxRecDepth 100000 in
theorem vX9_lays_0 {x : ab_Cx} {d mc ms : Nat} {Post : Option ab_V → List ab_Ob → Prop} (hx : ab_At x mX9_lays d mc ms Post) (w0 : ab_Ob) (kc ks : Nat)
    (h : ab_J x 2 [some (ab_O 0), some (ab_I 0), none, none] [] [w0] kc ks) :
    ab_J x 0 [some (ab_O 0), none, none, none] [] [w0] kc ks := ab_go hx kX9_lays.2 7 [(2, [true, true, false, false]), (45, [true, true, false, false]), (51, [true, true, true, false]), (61, [true, true, true, true])] 0 h
set_option maxRecDepth 100000 in
theorem vX9_lays_2 {x : ab_Cx} {d mc ms : Nat} {Post : Option ab_V → List ab_Ob → Prop} (hx : ab_At x mX9_lays d mc ms Post) (l1 : Int) (w0 : ab_Ob) (kc ks : Nat)
    (h : (((w0.1 8) ≤ l1 → ((-2147483648 ≤ (w0.1 8) - 1 ∧ (w0.1 8) - 1 ≤ 2147483647) ∧ ab_J x 45 [some (ab_O 0), some (ab_I ((w0.1 8) - 1)), none, none] [] [w0] kc ks)) ∧ (¬ (w0.1 8) ≤ l1 → (∃ Q1 : Option ab_V → List ab_Ob → Prop, ab_Ct d 0 0 mX9_strength [ab_O 0, ab_I l1] [w0] Q1 ∧ (∀ r2 : Int, Q1 (some (ab_I r2)) [w0] → ((0 ≤ l1 ∧ l1 < (w0.2 25).1) ∧ (∃ Q3 : Option ab_V → List ab_Ob → Prop, ab_Ct d 0 0 mX9_stable [ab_O 0, ab_I l1] [(ab_pa w0 25 l1 r2)] Q3 ∧ (∀ r4 : Int, Q3 (some (ab_I r4)) [(ab_pa w0 25 l1 r2)] → ((0 ≤ l1 ∧ l1 < (w0.2 26).1) ∧ ((-2147483648 ≤ l1 + 1 ∧ l1 + 1 ≤ 2147483647) ∧ ab_J x 2 [some (ab_O 0), some (ab_I (l1 + 1)), none, none] [] [(ab_pa (ab_pa w0 25 l1 r2) 26 l1 r4)] kc ks)))))))))) :
    ab_J x 2 [some (ab_O 0), some (ab_I l1), none, none] [] [w0] kc ks := ab_go hx kX9_lays.2 25 [(2, [true, true, false, false]), (45, [true, true, false, false]), (51, [true, true, true, false]), (61, [true, true, true, true])] 2 h
set_option maxRecDepth 100000 in
theorem vX9_lays_45 {x : ab_Cx} {d mc ms : Nat} {Post : Option ab_V → List ab_Ob → Prop} (hx : ab_At x mX9_lays d mc ms Post) (l1 : Int) (w0 : ab_Ob) (kc ks : Nat)
    (h : ((l1 < 0 → (∃ Q1 : Option ab_V → List ab_Ob → Prop, ab_Ct d 0 0 mX9_laysTree [ab_O 0] [w0] Q1 ∧ (∀ v2 : ab_Ob, Q1 none [v2] → Post none [v2]))) ∧ (¬ l1 < 0 → ab_J x 51 [some (ab_O 0), some (ab_I l1), some (ab_I l1), none] [] [w0] kc ks))) :
    ab_J x 45 [some (ab_O 0), some (ab_I l1), none, none] [] [w0] kc ks := ab_go hx kX9_lays.2 9 [(2, [true, true, false, false]), (45, [true, true, false, false]), (51, [true, true, true, false]), (61, [true, true, true, true])] 45 h
set_option maxRecDepth 100000 in
theorem vX9_lays_51 {x : ab_Cx} {d mc ms : Nat} {Post : Option ab_V → List ab_Ob → Prop} (hx : ab_At x mX9_lays d mc ms Post) (l1 l2 : Int) (w0 : ab_Ob) (kc ks : Nat)
    (h : (((w0.1 8) ≤ l2 → ((-2147483648 ≤ l1 + (-1) ∧ l1 + (-1) ≤ 2147483647) ∧ ab_J x 45 [some (ab_O 0), some (ab_I (l1 + (-1))), none, none] [] [w0] kc ks)) ∧ (¬ (w0.1 8) ≤ l2 → ab_J x 61 [some (ab_O 0), some (ab_I l1), some (ab_I l2), some (ab_I l1)] [] [w0] kc ks))) :
    ab_J x 51 [some (ab_O 0), some (ab_I l1), some (ab_I l2), none] [] [w0] kc ks := ab_go hx kX9_lays.2 11 [(2, [true, true, false, false]), (45, [true, true, false, false]), (51, [true, true, true, false]), (61, [true, true, true, true])] 51 h
set_option maxRecDepth 100000 in
theorem vX9_lays_61 {x : ab_Cx} {d mc ms : Nat} {Post : Option ab_V → List ab_Ob → Prop} (hx : ab_At x mX9_lays d mc ms Post) (l1 l2 l3 : Int) (w0 : ab_Ob) (kc ks : Nat)
    (h : ((l2 < l3 → ((-2147483648 ≤ l2 + 1 ∧ l2 + 1 ≤ 2147483647) ∧ ab_J x 51 [some (ab_O 0), some (ab_I l1), some (ab_I (l2 + 1)), none] [] [w0] kc ks)) ∧ (¬ l2 < l3 → (∃ Q1 : Option ab_V → List ab_Ob → Prop, ab_Ct d 0 0 mX9_laysOne [ab_O 0, ab_I l1, ab_I l2, ab_I l3] [w0] Q1 ∧ (∀ v2 : ab_Ob, Q1 none [v2] → ((-2147483648 ≤ l3 + 1 ∧ l3 + 1 ≤ 2147483647) ∧ ab_J x 61 [some (ab_O 0), some (ab_I l1), some (ab_I l2), some (ab_I (l3 + 1))] [] [v2] kc ks)))))) :
    ab_J x 61 [some (ab_O 0), some (ab_I l1), some (ab_I l2), some (ab_I l3)] [] [w0] kc ks := ab_go hx kX9_lays.2 15 [(2, [true, true, false, false]), (45, [true, true, false, false]), (51, [true, true, true, false]), (61, [true, true, true, true])] 61 h
def mX9_piece : ab_M := ((yX9_piece, cX9_piece, 3, (some .int)), ([9], [(0, 0)], [true], false, false, 0), (false, 9, 1))
def rX9_piece : List ab_R := [(0, .aload_n 0, 1, 0, 0, 0, [], none),
  (1, .iconst 0, 1, 0, 0, 0, [], none),
  (2, .putfield 100, 3, 9, 0, 0, [], none),
  (5, .iload_n 1, 1, 0, 0, 0, [], none),
  (6, .ifCond .lt 11, 3, 0, 0, 0, [17], none),
  (9, .iload_n 1, 1, 0, 0, 0, [], none),
  (10, .aload_n 0, 1, 0, 0, 0, [], none),
  (11, .getfield 226, 3, 9, 17, 0, [], none),
  (14, .if_icmp .le 9, 3, 0, 0, 0, [23], none),
  (17, .aload_n 0, 1, 0, 0, 0, [], none),
  (18, .iconst 2, 1, 0, 0, 0, [], none),
  (19, .invokevirtual 229, 3, 0, 0, 0, [], some mX9_refused),
  (22, .ireturn, 1, 0, 0, 0, [], none),
  (23, .aload_n 0, 1, 0, 0, 0, [], none),
  (24, .iload_n 1, 1, 0, 0, 0, [], none),
  (25, .putfield 106, 3, 9, 18, 0, [], none),
  (28, .aload_n 0, 1, 0, 0, 0, [], none),
  (29, .iconst 0, 1, 0, 0, 0, [], none),
  (30, .putfield 226, 3, 9, 17, 0, [], none),
  (33, .aload_n 0, 1, 0, 0, 0, [], none),
  (34, .iconst 0, 1, 0, 0, 0, [], none),
  (35, .putfield 112, 3, 9, 19, 0, [], none),
  (38, .aload_n 0, 1, 0, 0, 0, [], none),
  (39, .iconst 0, 1, 0, 0, 0, [], none),
  (40, .putfield 109, 3, 9, 23, 0, [], none),
  (43, .aload_n 0, 1, 0, 0, 0, [], none),
  (44, .invokevirtual 232, 3, 0, 0, 0, [], some mX9_readAll),
  (47, .aload_n 0, 1, 0, 0, 0, [], none),
  (48, .getfield 109, 3, 9, 23, 0, [], none),
  (51, .ifCond .le 18, 3, 0, 0, 0, [69], none),
  (54, .aload_n 0, 1, 0, 0, 0, [], none),
  (55, .iconst 4, 1, 0, 0, 0, [], none),
  (56, .putfield 103, 3, 9, 1, 0, [], none),
  (59, .aload_n 0, 1, 0, 0, 0, [], none),
  (60, .aload_n 0, 1, 0, 0, 0, [], none),
  (61, .getfield 119, 3, 9, 21, 0, [], none),
  (64, .putfield 9, 3, 9, 2, 0, [], none),
  (67, .iconst (-1), 1, 0, 0, 0, [], none),
  (68, .ireturn, 1, 0, 0, 0, [], none),
  (69, .aload_n 0, 1, 0, 0, 0, [], none),
  (70, .iconst 1, 1, 0, 0, 0, [], none),
  (71, .putfield 235, 3, 9, 14, 0, [], none),
  (74, .aload_n 0, 1, 0, 0, 0, [], none),
  (75, .iconst 0, 1, 0, 0, 0, [], none),
  (76, .putfield 239, 3, 9, 15, 0, [], none),
  (79, .aload_n 0, 1, 0, 0, 0, [], none),
  (80, .aload_n 0, 1, 0, 0, 0, [], none),
  (81, .getfield 167, 3, 9, 10, 0, [], none),
  (84, .putfield 242, 3, 9, 6, 0, [], none),
  (87, .aload_n 0, 1, 0, 0, 0, [], none),
  (88, .aload_n 0, 1, 0, 0, 0, [], none),
  (89, .getfield 202, 3, 9, 11, 0, [], none),
  (92, .putfield 244, 3, 9, 7, 0, [], none),
  (95, .aload_n 0, 1, 0, 0, 0, [], none),
  (96, .aload_n 0, 1, 0, 0, 0, [], none),
  (97, .getfield 170, 3, 9, 12, 0, [], none),
  (100, .putfield 246, 3, 9, 8, 0, [], none),
  (103, .iconst 0, 1, 0, 0, 0, [], none),
  (104, .istore_n 2, 1, 0, 0, 0, [], none),
  (105, .iload_n 2, 1, 0, 0, 0, [], none),
  (106, .bipush 55, 2, 0, 0, 0, [], none),
  (108, .if_icmp .ge 21, 3, 0, 0, 0, [129], none),
  (111, .aload_n 0, 1, 0, 0, 0, [], none),
  (112, .getfield 13, 3, 9, 3, 0, [], none),
  (115, .iload_n 2, 1, 0, 0, 0, [], none),
  (116, .aload_n 0, 1, 0, 0, 0, [], none),
  (117, .getfield 17, 3, 9, 4, 0, [], none),
  (120, .iload_n 2, 1, 0, 0, 0, [], none),
  (121, .iaload, 1, 0, 0, 0, [], none),
  (122, .iastore, 1, 0, 0, 0, [], none),
  (123, .iinc 2 1, 3, 0, 0, 0, [], none),
  (126, .goto (-21), 3, 0, 0, 0, [105], none),
  (129, .aload_n 0, 1, 0, 0, 0, [], none),
  (130, .iconst 0, 1, 0, 0, 0, [], none),
  (131, .putfield 249, 3, 9, 9, 0, [], none),
  (134, .aload_n 0, 1, 0, 0, 0, [], none),
  (135, .invokevirtual 252, 3, 0, 0, 0, [], some mX9_lays),
  (138, .aload_n 0, 1, 0, 0, 0, [], none),
  (139, .aload_n 0, 1, 0, 0, 0, [], none),
  (140, .getfield 246, 3, 9, 8, 0, [], none),
  (143, .invokevirtual 255, 3, 0, 0, 0, [], some mX9_good),
  (146, .ireturn, 1, 0, 0, 0, [], none)]
set_option maxRecDepth 100000 in
theorem kX9_piece : ab_def_ok mX9_piece rX9_piece := ⟨ab_mok_of 1360 108 1358 1359 (by decide +kernel), [0, 0, 1192, 0, 0, 0, 0, 1209, 0, 0, 0, 1361, 0, 0, 0, 1210, 0, 0, 1209, 0, 0, 1211, 0, 0, 1215, 0, 1365, 0, 1215, 0, 0, 0, 1193, 0, 0, 1213, 1194, 0, 0, 0, 0, 1206, 0, 0, 1207, 0, 0, 1202, 1198, 0, 0, 1203, 1199, 0, 0, 1204, 1200, 0, 0, 0, 0, 0, 0, 1195, 0, 0, 1196, 0, 0, 0, 0, 0, 0, 0, 1201, 0, 1442, 0, 0, 1200, 1509, 0], by decide +kernel⟩
set_option maxRecDepth 100000 in
theorem vX9_piece_0 {x : ab_Cx} {d mc ms : Nat} {Post : Option ab_V → List ab_Ob → Prop} (hx : ab_At x mX9_piece d mc ms Post) (a1 : Int) (w0 : ab_Ob) (kc ks : Nat)
    (h : ((a1 < 0 → (∃ Q1 : Option ab_V → List ab_Ob → Prop, ab_Ct d 0 0 mX9_refused [ab_O 0, ab_I 2] [(ab_pf w0 0 0)] Q1 ∧ (∀ r2 : Int, ∀ v3 : ab_Ob, Q1 (some (ab_I r2)) [v3] → Post (some (ab_I r2)) [v3]))) ∧ (¬ a1 < 0 → ((a1 ≤ (w0.1 17) → (∃ Q4 : Option ab_V → List ab_Ob → Prop, ab_Ct d 0 0 mX9_readAll [ab_O 0] [(ab_pf (ab_pf (ab_pf (ab_pf (ab_pf w0 0 0) 18 a1) 17 0) 19 0) 23 0)] Q4 ∧ (∀ v5 : ab_Ob, Q4 none [v5] → (((v5.1 23) ≤ 0 → (((1 : Int) = 0 ∨ (1 : Int) = 1) ∧ (((0 : Int) = 0 ∨ (0 : Int) = 1) ∧ ab_J x 105 [some (ab_O 0), none, some (ab_I 0)] [] [(ab_pf (ab_pf (ab_pf (ab_pf (ab_pf v5 14 1) 15 0) 6 (v5.1 10)) 7 (v5.1 11)) 8 (v5.1 12))] kc ks))) ∧ (¬ (v5.1 23) ≤ 0 → Post (some (ab_I (-1))) [(ab_pf (ab_pf v5 1 4) 2 (v5.1 21))]))))) ∧ (¬ a1 ≤ (w0.1 17) → (∃ Q6 : Option ab_V → List ab_Ob → Prop, ab_Ct d 0 0 mX9_refused [ab_O 0, ab_I 2] [(ab_pf w0 0 0)] Q6 ∧ (∀ r7 : Int, ∀ v8 : ab_Ob, Q6 (some (ab_I r7)) [v8] → Post (some (ab_I r7)) [v8]))))))) :
    ab_J x 0 [some (ab_O 0), some (ab_I a1), none] [] [w0] kc ks := ab_go hx kX9_piece.2 51 [(105, [true, false, true])] 0 h
set_option maxRecDepth 100000 in
theorem vX9_piece_105 {x : ab_Cx} {d mc ms : Nat} {Post : Option ab_V → List ab_Ob → Prop} (hx : ab_At x mX9_piece d mc ms Post) (l2 : Int) (w0 : ab_Ob) (kc ks : Nat)
    (h : ((55 ≤ l2 → (∃ Q1 : Option ab_V → List ab_Ob → Prop, ab_Ct d 0 0 mX9_lays [ab_O 0] [(ab_pf w0 9 0)] Q1 ∧ (∀ v2 : ab_Ob, Q1 none [v2] → (∃ Q3 : Option ab_V → List ab_Ob → Prop, ab_Ct d 0 0 mX9_good [ab_O 0, ab_I (v2.1 8)] [v2] Q3 ∧ (∀ r4 : Int, ∀ v5 : ab_Ob, Q3 (some (ab_I r4)) [v5] → Post (some (ab_I r4)) [v5]))))) ∧ (¬ 55 ≤ l2 → ((0 ≤ l2 ∧ l2 < (w0.2 4).1) ∧ ((0 ≤ l2 ∧ l2 < (w0.2 3).1) ∧ ((-2147483648 ≤ l2 + 1 ∧ l2 + 1 ≤ 2147483647) ∧ ab_J x 105 [some (ab_O 0), none, some (ab_I (l2 + 1))] [] [(ab_pa w0 3 l2 ((w0.2 4).2 l2))] kc ks)))))) :
    ab_J x 105 [some (ab_O 0), none, some (ab_I l2)] [] [w0] kc ks := ab_go hx kX9_piece.2 18 [(105, [true, false, true])] 105 h
def mX9_fault : ab_M := ((yX9_fault, cX9_fault, 1, (some .int)), ([9], [(0, 0)], [true], false, false, 0), (false, 9, 0))
def rX9_fault : List ab_R := [(0, .aload_n 0, 1, 0, 0, 0, [], none),
  (1, .iconst 0, 1, 0, 0, 0, [], none),
  (2, .putfield 100, 3, 9, 0, 0, [], none),
  (5, .aload_n 0, 1, 0, 0, 0, [], none),
  (6, .getfield 109, 3, 9, 23, 0, [], none),
  (9, .ireturn, 1, 0, 0, 0, [], none)]
set_option maxRecDepth 100000 in
theorem kX9_fault : ab_def_ok mX9_fault rX9_fault := ⟨ab_mok_of 1516 108 1514 1515 (by decide +kernel), [0, 0, 1192, 0, 1215, 0], by decide +kernel⟩
set_option maxRecDepth 100000 in
theorem vX9_fault_0 {x : ab_Cx} {d mc ms : Nat} {Post : Option ab_V → List ab_Ob → Prop} (hx : ab_At x mX9_fault d mc ms Post) (w0 : ab_Ob) (kc ks : Nat)
    (h : Post (some (ab_I (w0.1 23))) [(ab_pf w0 0 0)]) :
    ab_J x 0 [some (ab_O 0)] [] [w0] kc ks := ab_go hx kX9_fault.2 10 [] 0 h
def mX9_where : ab_M := ((yX9_where, cX9_where, 1, (some .int)), ([9], [(0, 0)], [true], false, false, 0), (false, 9, 0))
def rX9_where : List ab_R := [(0, .aload_n 0, 1, 0, 0, 0, [], none),
  (1, .iconst 0, 1, 0, 0, 0, [], none),
  (2, .putfield 100, 3, 9, 0, 0, [], none),
  (5, .aload_n 0, 1, 0, 0, 0, [], none),
  (6, .getfield 9, 3, 9, 2, 0, [], none),
  (9, .ireturn, 1, 0, 0, 0, [], none)]
set_option maxRecDepth 100000 in
theorem kX9_where : ab_def_ok mX9_where rX9_where := ⟨ab_mok_of 1520 108 1518 1519 (by decide +kernel), [0, 0, 1192, 0, 1194, 0], by decide +kernel⟩
set_option maxRecDepth 100000 in
theorem vX9_where_0 {x : ab_Cx} {d mc ms : Nat} {Post : Option ab_V → List ab_Ob → Prop} (hx : ab_At x mX9_where d mc ms Post) (w0 : ab_Ob) (kc ks : Nat)
    (h : Post (some (ab_I (w0.1 2))) [(ab_pf w0 0 0)]) :
    ab_J x 0 [some (ab_O 0)] [] [w0] kc ks := ab_go hx kX9_where.2 10 [] 0 h
def mX9_isNote : ab_M := ((yX9_isNote, cX9_isNote, 2, (some .boolean)), ([9], [(0, 0)], [false], false, false, 0), (false, 9, 1))
def rX9_isNote : List ab_R := [(0, .aload_n 0, 1, 0, 0, 0, [], none),
  (1, .getfield 235, 3, 9, 14, 0, [], none),
  (4, .ifCond .eq 21, 3, 0, 0, 0, [25], none),
  (7, .iload_n 1, 1, 0, 0, 0, [], none),
  (8, .iconst 0, 1, 0, 0, 0, [], none),
  (9, .aload_n 0, 1, 0, 0, 0, [], none),
  (10, .getfield 246, 3, 9, 8, 0, [], none),
  (13, .iconst 1, 1, 0, 0, 0, [], none),
  (14, .isub, 1, 0, 0, 0, [], none),
  (15, .invokestatic 125, 3, 0, 0, 0, [], some mX9_in),
  (18, .ifCond .eq 7, 3, 0, 0, 0, [25], none),
  (21, .iconst 1, 1, 0, 0, 0, [], none),
  (22, .goto 4, 3, 0, 0, 0, [26], none),
  (25, .iconst 0, 1, 0, 0, 0, [], none),
  (26, .ireturn, 1, 0, 0, 0, [], none)]
set_option maxRecDepth 100000 in
theorem kX9_isNote : ab_def_ok mX9_isNote rX9_isNote := ⟨ab_mok_of 1532 108 1531 75 (by decide +kernel), [0, 1206, 0, 0, 0, 0, 1200, 0, 0, 1377, 0, 0, 0, 0, 0], by decide +kernel⟩
set_option maxRecDepth 100000 in
theorem vX9_isNote_0 {x : ab_Cx} {d mc ms : Nat} {Post : Option ab_V → List ab_Ob → Prop} (hx : ab_At x mX9_isNote d mc ms Post) (a1 : Int) (w0 : ab_Ob) (kc ks : Nat)
    (h : (((w0.1 14) = 0 → (((0 : Int) = 0 ∨ (0 : Int) = 1) ∧ Post (some (ab_I 0)) [w0])) ∧ (¬ (w0.1 14) = 0 → ((-2147483648 ≤ (w0.1 8) - 1 ∧ (w0.1 8) - 1 ≤ 2147483647) ∧ (∃ Q1 : Option ab_V → List ab_Ob → Prop, ab_Ct d 0 0 mX9_in [ab_I a1, ab_I 0, ab_I ((w0.1 8) - 1)] [] Q1 ∧ (∀ r2 : Int, Q1 (some (ab_I r2)) [] → ((r2 = 0 → (((0 : Int) = 0 ∨ (0 : Int) = 1) ∧ Post (some (ab_I 0)) [w0])) ∧ (¬ r2 = 0 → (((1 : Int) = 0 ∨ (1 : Int) = 1) ∧ Post (some (ab_I 1)) [w0]))))))))) :
    ab_J x 0 [some (ab_O 0), some (ab_I a1)] [] [w0] kc ks := ab_go hx kX9_isNote.2 18 [] 0 h
def mX9_isSpan : ab_M := ((yX9_isSpan, cX9_isSpan, 3, (some .boolean)), ([9], [(0, 0)], [false], false, false, 0), (false, 9, 2))
def rX9_isSpan : List ab_R := [(0, .aload_n 0, 1, 0, 0, 0, [], none),
  (1, .iload_n 1, 1, 0, 0, 0, [], none),
  (2, .invokevirtual 307, 3, 0, 0, 0, [], some mX9_isNote),
  (5, .ifCond .eq 20, 3, 0, 0, 0, [25], none),
  (8, .aload_n 0, 1, 0, 0, 0, [], none),
  (9, .iload_n 2, 1, 0, 0, 0, [], none),
  (10, .invokevirtual 307, 3, 0, 0, 0, [], some mX9_isNote),
  (13, .ifCond .eq 12, 3, 0, 0, 0, [25], none),
  (16, .iload_n 1, 1, 0, 0, 0, [], none),
  (17, .iload_n 2, 1, 0, 0, 0, [], none),
  (18, .if_icmp .gt 7, 3, 0, 0, 0, [25], none),
  (21, .iconst 1, 1, 0, 0, 0, [], none),
  (22, .goto 4, 3, 0, 0, 0, [26], none),
  (25, .iconst 0, 1, 0, 0, 0, [], none),
  (26, .ireturn, 1, 0, 0, 0, [], none)]
set_option maxRecDepth 100000 in
theorem kX9_isSpan : ab_def_ok mX9_isSpan rX9_isSpan := ⟨ab_mok_of 1547 108 1546 76 (by decide +kernel), [0, 0, 1529, 0, 0, 0, 1529, 0, 0, 0, 0, 0, 0, 0, 0], by decide +kernel⟩
set_option maxRecDepth 100000 in
theorem vX9_isSpan_0 {x : ab_Cx} {d mc ms : Nat} {Post : Option ab_V → List ab_Ob → Prop} (hx : ab_At x mX9_isSpan d mc ms Post) (a1 a2 : Int) (w0 : ab_Ob) (kc ks : Nat)
    (h : (∃ Q1 : Option ab_V → List ab_Ob → Prop, ab_Ct d 0 0 mX9_isNote [ab_O 0, ab_I a1] [w0] Q1 ∧ (∀ r2 : Int, Q1 (some (ab_I r2)) [w0] → ((r2 = 0 → (((0 : Int) = 0 ∨ (0 : Int) = 1) ∧ Post (some (ab_I 0)) [w0])) ∧ (¬ r2 = 0 → (∃ Q3 : Option ab_V → List ab_Ob → Prop, ab_Ct d 0 0 mX9_isNote [ab_O 0, ab_I a2] [w0] Q3 ∧ (∀ r4 : Int, Q3 (some (ab_I r4)) [w0] → ((r4 = 0 → (((0 : Int) = 0 ∨ (0 : Int) = 1) ∧ Post (some (ab_I 0)) [w0])) ∧ (¬ r4 = 0 → ((a2 < a1 → (((0 : Int) = 0 ∨ (0 : Int) = 1) ∧ Post (some (ab_I 0)) [w0])) ∧ (¬ a2 < a1 → (((1 : Int) = 0 ∨ (1 : Int) = 1) ∧ Post (some (ab_I 1)) [w0])))))))))))) :
    ab_J x 0 [some (ab_O 0), some (ab_I a1), some (ab_I a2)] [] [w0] kc ks := ab_go hx kX9_isSpan.2 18 [] 0 h
def mX9_isRule : ab_M := ((yX9_isRule, cX9_isRule, 1, (some .boolean)), ([], [], [], false, false, 0), (true, 9, 1))
def rX9_isRule : List ab_R := [(0, .iload_n 0, 1, 0, 0, 0, [], none),
  (1, .iconst 0, 1, 0, 0, 0, [], none),
  (2, .iconst 5, 1, 0, 0, 0, [], none),
  (3, .invokestatic 125, 3, 0, 0, 0, [], some mX9_in),
  (6, .ireturn, 1, 0, 0, 0, [], none)]
set_option maxRecDepth 100000 in
theorem kX9_isRule : ab_def_ok mX9_isRule rX9_isRule := ⟨ab_mok_of 1539 108 1538 0 (by decide +kernel), [0, 0, 0, 1377, 0], by decide +kernel⟩
set_option maxRecDepth 100000 in
theorem vX9_isRule_0 {x : ab_Cx} {d mc ms : Nat} {Post : Option ab_V → List ab_Ob → Prop} (hx : ab_At x mX9_isRule d mc ms Post) (a0 : Int) (kc ks : Nat)
    (h : (∃ Q1 : Option ab_V → List ab_Ob → Prop, ab_Ct d 0 0 mX9_in [ab_I a0, ab_I 0, ab_I 5] [] Q1 ∧ (∀ r2 : Int, Q1 (some (ab_I r2)) [] → ((r2 = 0 ∨ r2 = 1) ∧ Post (some (ab_I r2)) [])))) :
    ab_J x 0 [some (ab_I a0)] [] [] kc ks := ab_go hx kX9_isRule.2 9 [] 0 h
def mX9_about : ab_M := ((yX9_about, cX9_about, 4, (some .int)), ([9], [(0, 0)], [true], false, false, 0), (false, 9, 1))
def rX9_about : List ab_R := [(0, .aload_n 0, 1, 0, 0, 0, [], none),
  (1, .iconst 0, 1, 0, 0, 0, [], none),
  (2, .putfield 100, 3, 9, 0, 0, [], none),
  (5, .aload_n 0, 1, 0, 0, 0, [], none),
  (6, .getfield 235, 3, 9, 14, 0, [], none),
  (9, .ifCond .ne 9, 3, 0, 0, 0, [18], none),
  (12, .aload_n 0, 1, 0, 0, 0, [], none),
  (13, .iconst 1, 1, 0, 0, 0, [], none),
  (14, .invokevirtual 229, 3, 0, 0, 0, [], some mX9_refused),
  (17, .ireturn, 1, 0, 0, 0, [], none),
  (18, .iconst 0, 1, 0, 0, 0, [], none),
  (19, .istore_n 2, 1, 0, 0, 0, [], none),
  (20, .iload_n 1, 1, 0, 0, 0, [], none),
  (21, .tableswitch 131 0 5 #[39, 48, 57, 69, 78, 91], 39, 0, 0, 0, [152, 60, 69, 78, 90, 99, 112], none),
  (60, .aload_n 0, 1, 0, 0, 0, [], none),
  (61, .aload_n 0, 1, 0, 0, 0, [], none),
  (62, .getfield 242, 3, 9, 6, 0, [], none),
  (65, .invokevirtual 255, 3, 0, 0, 0, [], some mX9_good),
  (68, .ireturn, 1, 0, 0, 0, [], none),
  (69, .aload_n 0, 1, 0, 0, 0, [], none),
  (70, .aload_n 0, 1, 0, 0, 0, [], none),
  (71, .getfield 244, 3, 9, 7, 0, [], none),
  (74, .invokevirtual 255, 3, 0, 0, 0, [], some mX9_good),
  (77, .ireturn, 1, 0, 0, 0, [], none),
  (78, .aload_n 0, 1, 0, 0, 0, [], none),
  (79, .aload_n 0, 1, 0, 0, 0, [], none),
  (80, .getfield 13, 3, 9, 3, 0, [], none),
  (83, .bipush 54, 2, 0, 0, 0, [], none),
  (85, .iaload, 1, 0, 0, 0, [], none),
  (86, .invokevirtual 255, 3, 0, 0, 0, [], some mX9_good),
  (89, .ireturn, 1, 0, 0, 0, [], none),
  (90, .aload_n 0, 1, 0, 0, 0, [], none),
  (91, .aload_n 0, 1, 0, 0, 0, [], none),
  (92, .getfield 246, 3, 9, 8, 0, [], none),
  (95, .invokevirtual 255, 3, 0, 0, 0, [], some mX9_good),
  (98, .ireturn, 1, 0, 0, 0, [], none),
  (99, .aload_n 0, 1, 0, 0, 0, [], none),
  (100, .aload_n 0, 1, 0, 0, 0, [], none),
  (101, .aload_n 0, 1, 0, 0, 0, [], none),
  (102, .getfield 246, 3, 9, 8, 0, [], none),
  (105, .invokevirtual 261, 3, 0, 0, 0, [], some mX9_beginOf),
  (108, .invokevirtual 255, 3, 0, 0, 0, [], some mX9_good),
  (111, .ireturn, 1, 0, 0, 0, [], none),
  (112, .iconst 0, 1, 0, 0, 0, [], none),
  (113, .istore_n 3, 1, 0, 0, 0, [], none),
  (114, .iload_n 3, 1, 0, 0, 0, [], none),
  (115, .bipush 6, 2, 0, 0, 0, [], none),
  (117, .if_icmp .ge 29, 3, 0, 0, 0, [146], none),
  (120, .iload_n 2, 1, 0, 0, 0, [], none),
  (121, .aload_n 0, 1, 0, 0, 0, [], none),
  (122, .getfield 13, 3, 9, 3, 0, [], none),
  (125, .bipush 48, 2, 0, 0, 0, [], none),
  (127, .iload_n 3, 1, 0, 0, 0, [], none),
  (128, .iadd, 1, 0, 0, 0, [], none),
  (129, .iaload, 1, 0, 0, 0, [], none),
  (130, .ifCond .le 7, 3, 0, 0, 0, [137], none),
  (133, .iconst 1, 1, 0, 0, 0, [], none),
  (134, .goto 4, 3, 0, 0, 0, [138], none),
  (137, .iconst 0, 1, 0, 0, 0, [], none),
  (138, .iadd, 1, 0, 0, 0, [], none),
  (139, .istore_n 2, 1, 0, 0, 0, [], none),
  (140, .iinc 3 1, 3, 0, 0, 0, [], none),
  (143, .goto (-29), 3, 0, 0, 0, [114], none),
  (146, .aload_n 0, 1, 0, 0, 0, [], none),
  (147, .iload_n 2, 1, 0, 0, 0, [], none),
  (148, .invokevirtual 255, 3, 0, 0, 0, [], some mX9_good),
  (151, .ireturn, 1, 0, 0, 0, [], none),
  (152, .aload_n 0, 1, 0, 0, 0, [], none),
  (153, .iconst 1, 1, 0, 0, 0, [], none),
  (154, .invokevirtual 229, 3, 0, 0, 0, [], some mX9_refused),
  (157, .ireturn, 1, 0, 0, 0, [], none)]
set_option maxRecDepth 100000 in
theorem kX9_about : ab_def_ok mX9_about rX9_about := ⟨ab_mok_of 1524 108 1522 1523 (by decide +kernel), [0, 0, 1192, 0, 1206, 0, 0, 0, 1361, 0, 0, 0, 0, 0, 0, 0, 1198, 1509, 0, 0, 0, 1199, 1509, 0, 0, 0, 1195, 0, 0, 1509, 0, 0, 0, 1200, 1509, 0, 0, 0, 0, 1200, 1450, 1509, 0, 0, 0, 0, 0, 0, 0, 0, 1195, 0, 0, 0, 0, 0, 0, 0, 0, 0, 0, 0, 0, 0, 0, 1509, 0, 0, 0, 1361, 0], by decide +kernel⟩
set_option maxRecDepth 100000 in
theorem vX9_about_0 {x : ab_Cx} {d mc ms : Nat} {Post : Option ab_V → List ab_Ob → Prop} (hx : ab_At x mX9_about d mc ms Post) (a1 : Int) (w0 : ab_Ob) (kc ks : Nat)
    (h : ((¬ (w0.1 14) = 0 → ((a1 < 0 ∨ 5 < a1 → (∃ Q18 : Option ab_V → List ab_Ob → Prop, ab_Ct d 0 0 mX9_refused [ab_O 0, ab_I 1] [(ab_pf w0 0 0)] Q18 ∧ (∀ r19 : Int, ∀ v20 : ab_Ob, Q18 (some (ab_I r19)) [v20] → Post (some (ab_I r19)) [v20]))) ∧ ((a1 = 0 → (∃ Q15 : Option ab_V → List ab_Ob → Prop, ab_Ct d 0 0 mX9_good [ab_O 0, ab_I (w0.1 6)] [(ab_pf w0 0 0)] Q15 ∧ (∀ r16 : Int, ∀ v17 : ab_Ob, Q15 (some (ab_I r16)) [v17] → Post (some (ab_I r16)) [v17]))) ∧ ((a1 = 1 → (∃ Q12 : Option ab_V → List ab_Ob → Prop, ab_Ct d 0 0 mX9_good [ab_O 0, ab_I (w0.1 7)] [(ab_pf w0 0 0)] Q12 ∧ (∀ r13 : Int, ∀ v14 : ab_Ob, Q12 (some (ab_I r13)) [v14] → Post (some (ab_I r13)) [v14]))) ∧ ((a1 = 2 → ((0 ≤ (54 : Int) ∧ (54 : Int) < (w0.2 3).1) ∧ (∃ Q9 : Option ab_V → List ab_Ob → Prop, ab_Ct d 0 0 mX9_good [ab_O 0, ab_I ((w0.2 3).2 54)] [(ab_pf w0 0 0)] Q9 ∧ (∀ r10 : Int, ∀ v11 : ab_Ob, Q9 (some (ab_I r10)) [v11] → Post (some (ab_I r10)) [v11])))) ∧ ((a1 = 3 → (∃ Q6 : Option ab_V → List ab_Ob → Prop, ab_Ct d 0 0 mX9_good [ab_O 0, ab_I (w0.1 8)] [(ab_pf w0 0 0)] Q6 ∧ (∀ r7 : Int, ∀ v8 : ab_Ob, Q6 (some (ab_I r7)) [v8] → Post (some (ab_I r7)) [v8]))) ∧ ((a1 = 4 → (∃ Q1 : Option ab_V → List ab_Ob → Prop, ab_Ct d 0 0 mX9_beginOf [ab_O 0, ab_I (w0.1 8)] [(ab_pf w0 0 0)] Q1 ∧ (∀ r2 : Int, Q1 (some (ab_I r2)) [(ab_pf w0 0 0)] → (∃ Q3 : Option ab_V → List ab_Ob → Prop, ab_Ct d 0 0 mX9_good [ab_O 0, ab_I r2] [(ab_pf w0 0 0)] Q3 ∧ (∀ r4 : Int, ∀ v5 : ab_Ob, Q3 (some (ab_I r4)) [v5] → Post (some (ab_I r4)) [v5]))))) ∧ ((a1 = 5 → ab_J x 114 [some (ab_O 0), none, some (ab_I 0), some (ab_I 0)] [] [(ab_pf w0 0 0)] kc ks) ∧ True)))))))) ∧ ((w0.1 14) = 0 → (∃ Q21 : Option ab_V → List ab_Ob → Prop, ab_Ct d 0 0 mX9_refused [ab_O 0, ab_I 1] [(ab_pf w0 0 0)] Q21 ∧ (∀ r22 : Int, ∀ v23 : ab_Ob, Q21 (some (ab_I r22)) [v23] → Post (some (ab_I r22)) [v23]))))) :
    ab_J x 0 [some (ab_O 0), some (ab_I a1), none, none] [] [w0] kc ks := ab_go hx kX9_about.2 21 [(114, [true, false, true, true])] 0 h
set_option maxRecDepth 100000 in
theorem vX9_about_114 {x : ab_Cx} {d mc ms : Nat} {Post : Option ab_V → List ab_Ob → Prop} (hx : ab_At x mX9_about d mc ms Post) (l2 l3 : Int) (w0 : ab_Ob) (kc ks : Nat)
    (h : ((6 ≤ l3 → (∃ Q1 : Option ab_V → List ab_Ob → Prop, ab_Ct d 0 0 mX9_good [ab_O 0, ab_I l2] [w0] Q1 ∧ (∀ r2 : Int, ∀ v3 : ab_Ob, Q1 (some (ab_I r2)) [v3] → Post (some (ab_I r2)) [v3]))) ∧ (¬ 6 ≤ l3 → ((-2147483648 ≤ 48 + l3 ∧ 48 + l3 ≤ 2147483647) ∧ ((0 ≤ (48 + l3) ∧ (48 + l3) < (w0.2 3).1) ∧ ((((w0.2 3).2 (48 + l3)) ≤ 0 → ((-2147483648 ≤ l2 + 0 ∧ l2 + 0 ≤ 2147483647) ∧ ((-2147483648 ≤ l3 + 1 ∧ l3 + 1 ≤ 2147483647) ∧ ab_J x 114 [some (ab_O 0), none, some (ab_I (l2 + 0)), some (ab_I (l3 + 1))] [] [w0] kc ks))) ∧ (¬ ((w0.2 3).2 (48 + l3)) ≤ 0 → ((-2147483648 ≤ l2 + 1 ∧ l2 + 1 ≤ 2147483647) ∧ ((-2147483648 ≤ l3 + 1 ∧ l3 + 1 ≤ 2147483647) ∧ ab_J x 114 [some (ab_O 0), none, some (ab_I (l2 + 1)), some (ab_I (l3 + 1))] [] [w0] kc ks))))))))) :
    ab_J x 114 [some (ab_O 0), none, some (ab_I l2), some (ab_I l3)] [] [w0] kc ks := ab_go hx kX9_about.2 22 [(114, [true, false, true, true])] 114 h
def mX9_note : ab_M := ((yX9_note, cX9_note, 3, (some .int)), ([9], [(0, 0)], [true], false, false, 0), (false, 9, 2))
def rX9_note : List ab_R := [(0, .aload_n 0, 1, 0, 0, 0, [], none),
  (1, .iconst 0, 1, 0, 0, 0, [], none),
  (2, .putfield 100, 3, 9, 0, 0, [], none),
  (5, .aload_n 0, 1, 0, 0, 0, [], none),
  (6, .iload_n 1, 1, 0, 0, 0, [], none),
  (7, .invokevirtual 307, 3, 0, 0, 0, [], some mX9_isNote),
  (10, .ifCond .ne 9, 3, 0, 0, 0, [19], none),
  (13, .aload_n 0, 1, 0, 0, 0, [], none),
  (14, .iconst 1, 1, 0, 0, 0, [], none),
  (15, .invokevirtual 229, 3, 0, 0, 0, [], some mX9_refused),
  (18, .ireturn, 1, 0, 0, 0, [], none),
  (19, .iload_n 2, 1, 0, 0, 0, [], none),
  (20, .tableswitch 103 0 5 #[40, 50, 60, 70, 81, 92], 40, 0, 0, 0, [123, 60, 70, 80, 90, 101, 112], none),
  (60, .aload_n 0, 1, 0, 0, 0, [], none),
  (61, .aload_n 0, 1, 0, 0, 0, [], none),
  (62, .iload_n 1, 1, 0, 0, 0, [], none),
  (63, .invokevirtual 264, 3, 0, 0, 0, [], some mX9_pitchOf),
  (66, .invokevirtual 255, 3, 0, 0, 0, [], some mX9_good),
  (69, .ireturn, 1, 0, 0, 0, [], none),
  (70, .aload_n 0, 1, 0, 0, 0, [], none),
  (71, .aload_n 0, 1, 0, 0, 0, [], none),
  (72, .iload_n 1, 1, 0, 0, 0, [], none),
  (73, .invokevirtual 258, 3, 0, 0, 0, [], some mX9_lasts),
  (76, .invokevirtual 255, 3, 0, 0, 0, [], some mX9_good),
  (79, .ireturn, 1, 0, 0, 0, [], none),
  (80, .aload_n 0, 1, 0, 0, 0, [], none),
  (81, .aload_n 0, 1, 0, 0, 0, [], none),
  (82, .iload_n 1, 1, 0, 0, 0, [], none),
  (83, .invokevirtual 261, 3, 0, 0, 0, [], some mX9_beginOf),
  (86, .invokevirtual 255, 3, 0, 0, 0, [], some mX9_good),
  (89, .ireturn, 1, 0, 0, 0, [], none),
  (90, .aload_n 0, 1, 0, 0, 0, [], none),
  (91, .aload_n 0, 1, 0, 0, 0, [], none),
  (92, .getfield 27, 3, 9, 25, 0, [], none),
  (95, .iload_n 1, 1, 0, 0, 0, [], none),
  (96, .iaload, 1, 0, 0, 0, [], none),
  (97, .invokevirtual 255, 3, 0, 0, 0, [], some mX9_good),
  (100, .ireturn, 1, 0, 0, 0, [], none),
  (101, .aload_n 0, 1, 0, 0, 0, [], none),
  (102, .aload_n 0, 1, 0, 0, 0, [], none),
  (103, .getfield 30, 3, 9, 26, 0, [], none),
  (106, .iload_n 1, 1, 0, 0, 0, [], none),
  (107, .iaload, 1, 0, 0, 0, [], none),
  (108, .invokevirtual 255, 3, 0, 0, 0, [], some mX9_good),
  (111, .ireturn, 1, 0, 0, 0, [], none),
  (112, .aload_n 0, 1, 0, 0, 0, [], none),
  (113, .aload_n 0, 1, 0, 0, 0, [], none),
  (114, .getfield 58, 3, 9, 35, 0, [], none),
  (117, .iload_n 1, 1, 0, 0, 0, [], none),
  (118, .iaload, 1, 0, 0, 0, [], none),
  (119, .invokevirtual 255, 3, 0, 0, 0, [], some mX9_good),
  (122, .ireturn, 1, 0, 0, 0, [], none),
  (123, .aload_n 0, 1, 0, 0, 0, [], none),
  (124, .iconst 1, 1, 0, 0, 0, [], none),
  (125, .invokevirtual 229, 3, 0, 0, 0, [], some mX9_refused),
  (128, .ireturn, 1, 0, 0, 0, [], none)]
set_option maxRecDepth 100000 in
theorem kX9_note : ab_def_ok mX9_note rX9_note := ⟨ab_mok_of 1528 108 1526 1527 (by decide +kernel), [0, 0, 1192, 0, 0, 1529, 0, 0, 0, 1361, 0, 0, 0, 0, 0, 0, 1462, 1509, 0, 0, 0, 0, 1454, 1509, 0, 0, 0, 0, 1450, 1509, 0, 0, 0, 1217, 0, 0, 1509, 0, 0, 0, 1218, 0, 0, 1509, 0, 0, 0, 1227, 0, 0, 1509, 0, 0, 0, 1361, 0], by decide +kernel⟩
set_option maxRecDepth 100000 in
theorem vX9_note_0 {x : ab_Cx} {d mc ms : Nat} {Post : Option ab_V → List ab_Ob → Prop} (hx : ab_At x mX9_note d mc ms Post) (a1 a2 : Int) (w0 : ab_Ob) (kc ks : Nat)
    (h : (∃ Q1 : Option ab_V → List ab_Ob → Prop, ab_Ct d 0 0 mX9_isNote [ab_O 0, ab_I a1] [(ab_pf w0 0 0)] Q1 ∧ (∀ r2 : Int, Q1 (some (ab_I r2)) [(ab_pf w0 0 0)] → ((¬ r2 = 0 → ((a2 < 0 ∨ 5 < a2 → (∃ Q27 : Option ab_V → List ab_Ob → Prop, ab_Ct d 0 0 mX9_refused [ab_O 0, ab_I 1] [(ab_pf w0 0 0)] Q27 ∧ (∀ r28 : Int, ∀ v29 : ab_Ob, Q27 (some (ab_I r28)) [v29] → Post (some (ab_I r28)) [v29]))) ∧ ((a2 = 0 → (∃ Q22 : Option ab_V → List ab_Ob → Prop, ab_Ct d 0 0 mX9_pitchOf [ab_O 0, ab_I a1] [(ab_pf w0 0 0)] Q22 ∧ (∀ r23 : Int, Q22 (some (ab_I r23)) [(ab_pf w0 0 0)] → (∃ Q24 : Option ab_V → List ab_Ob → Prop, ab_Ct d 0 0 mX9_good [ab_O 0, ab_I r23] [(ab_pf w0 0 0)] Q24 ∧ (∀ r25 : Int, ∀ v26 : ab_Ob, Q24 (some (ab_I r25)) [v26] → Post (some (ab_I r25)) [v26]))))) ∧ ((a2 = 1 → (∃ Q17 : Option ab_V → List ab_Ob → Prop, ab_Ct d 0 0 mX9_lasts [ab_O 0, ab_I a1] [(ab_pf w0 0 0)] Q17 ∧ (∀ r18 : Int, Q17 (some (ab_I r18)) [(ab_pf w0 0 0)] → (∃ Q19 : Option ab_V → List ab_Ob → Prop, ab_Ct d 0 0 mX9_good [ab_O 0, ab_I r18] [(ab_pf w0 0 0)] Q19 ∧ (∀ r20 : Int, ∀ v21 : ab_Ob, Q19 (some (ab_I r20)) [v21] → Post (some (ab_I r20)) [v21]))))) ∧ ((a2 = 2 → (∃ Q12 : Option ab_V → List ab_Ob → Prop, ab_Ct d 0 0 mX9_beginOf [ab_O 0, ab_I a1] [(ab_pf w0 0 0)] Q12 ∧ (∀ r13 : Int, Q12 (some (ab_I r13)) [(ab_pf w0 0 0)] → (∃ Q14 : Option ab_V → List ab_Ob → Prop, ab_Ct d 0 0 mX9_good [ab_O 0, ab_I r13] [(ab_pf w0 0 0)] Q14 ∧ (∀ r15 : Int, ∀ v16 : ab_Ob, Q14 (some (ab_I r15)) [v16] → Post (some (ab_I r15)) [v16]))))) ∧ ((a2 = 3 → ((0 ≤ a1 ∧ a1 < (w0.2 25).1) ∧ (∃ Q9 : Option ab_V → List ab_Ob → Prop, ab_Ct d 0 0 mX9_good [ab_O 0, ab_I ((w0.2 25).2 a1)] [(ab_pf w0 0 0)] Q9 ∧ (∀ r10 : Int, ∀ v11 : ab_Ob, Q9 (some (ab_I r10)) [v11] → Post (some (ab_I r10)) [v11])))) ∧ ((a2 = 4 → ((0 ≤ a1 ∧ a1 < (w0.2 26).1) ∧ (∃ Q6 : Option ab_V → List ab_Ob → Prop, ab_Ct d 0 0 mX9_good [ab_O 0, ab_I ((w0.2 26).2 a1)] [(ab_pf w0 0 0)] Q6 ∧ (∀ r7 : Int, ∀ v8 : ab_Ob, Q6 (some (ab_I r7)) [v8] → Post (some (ab_I r7)) [v8])))) ∧ ((a2 = 5 → ((0 ≤ a1 ∧ a1 < (w0.2 35).1) ∧ (∃ Q3 : Option ab_V → List ab_Ob → Prop, ab_Ct d 0 0 mX9_good [ab_O 0, ab_I ((w0.2 35).2 a1)] [(ab_pf w0 0 0)] Q3 ∧ (∀ r4 : Int, ∀ v5 : ab_Ob, Q3 (some (ab_I r4)) [v5] → Post (some (ab_I r4)) [v5])))) ∧ True)))))))) ∧ (r2 = 0 → (∃ Q30 : Option ab_V → List ab_Ob → Prop, ab_Ct d 0 0 mX9_refused [ab_O 0, ab_I 1] [(ab_pf w0 0 0)] Q30 ∧ (∀ r31 : Int, ∀ v32 : ab_Ob, Q30 (some (ab_I r31)) [v32] → Post (some (ab_I r31)) [v32]))))))) :
    ab_J x 0 [some (ab_O 0), some (ab_I a1), some (ab_I a2)] [] [w0] kc ks := ab_go hx kX9_note.2 20 [] 0 h
def mX9_weight : ab_M := ((yX9_weight, cX9_weight, 2, (some .int)), ([9], [(0, 0)], [true], false, false, 0), (false, 9, 1))
def rX9_weight : List ab_R := [(0, .aload_n 0, 1, 0, 0, 0, [], none),
  (1, .iconst 0, 1, 0, 0, 0, [], none),
  (2, .putfield 100, 3, 9, 0, 0, [], none),
  (5, .aload_n 0, 1, 0, 0, 0, [], none),
  (6, .getfield 235, 3, 9, 14, 0, [], none),
  (9, .ifCond .eq 26, 3, 0, 0, 0, [35], none),
  (12, .iload_n 1, 1, 0, 0, 0, [], none),
  (13, .invokestatic 311, 3, 0, 0, 0, [], some mX9_isRule),
  (16, .ifCond .eq 19, 3, 0, 0, 0, [35], none),
  (19, .aload_n 0, 1, 0, 0, 0, [], none),
  (20, .aload_n 0, 1, 0, 0, 0, [], none),
  (21, .getfield 13, 3, 9, 3, 0, [], none),
  (24, .bipush 48, 2, 0, 0, 0, [], none),
  (26, .iload_n 1, 1, 0, 0, 0, [], none),
  (27, .iadd, 1, 0, 0, 0, [], none),
  (28, .iaload, 1, 0, 0, 0, [], none),
  (29, .invokevirtual 255, 3, 0, 0, 0, [], some mX9_good),
  (32, .goto 8, 3, 0, 0, 0, [40], none),
  (35, .aload_n 0, 1, 0, 0, 0, [], none),
  (36, .iconst 1, 1, 0, 0, 0, [], none),
  (37, .invokevirtual 229, 3, 0, 0, 0, [], some mX9_refused),
  (40, .ireturn, 1, 0, 0, 0, [], none)]
set_option maxRecDepth 100000 in
theorem kX9_weight : ab_def_ok mX9_weight rX9_weight := ⟨ab_mok_of 1536 108 1534 1535 (by decide +kernel), [0, 0, 1192, 0, 1206, 0, 0, 1537, 0, 0, 0, 1195, 0, 0, 0, 0, 1509, 0, 0, 0, 1361, 0], by decide +kernel⟩
set_option maxRecDepth 100000 in
theorem vX9_weight_0 {x : ab_Cx} {d mc ms : Nat} {Post : Option ab_V → List ab_Ob → Prop} (hx : ab_At x mX9_weight d mc ms Post) (a1 : Int) (w0 : ab_Ob) (kc ks : Nat)
    (h : (((w0.1 14) = 0 → (∃ Q1 : Option ab_V → List ab_Ob → Prop, ab_Ct d 0 0 mX9_refused [ab_O 0, ab_I 1] [(ab_pf w0 0 0)] Q1 ∧ (∀ r2 : Int, ∀ v3 : ab_Ob, Q1 (some (ab_I r2)) [v3] → Post (some (ab_I r2)) [v3]))) ∧ (¬ (w0.1 14) = 0 → (∃ Q4 : Option ab_V → List ab_Ob → Prop, ab_Ct d 0 0 mX9_isRule [ab_I a1] [] Q4 ∧ (∀ r5 : Int, Q4 (some (ab_I r5)) [] → ((r5 = 0 → (∃ Q6 : Option ab_V → List ab_Ob → Prop, ab_Ct d 0 0 mX9_refused [ab_O 0, ab_I 1] [(ab_pf w0 0 0)] Q6 ∧ (∀ r7 : Int, ∀ v8 : ab_Ob, Q6 (some (ab_I r7)) [v8] → Post (some (ab_I r7)) [v8]))) ∧ (¬ r5 = 0 → ((-2147483648 ≤ 48 + a1 ∧ 48 + a1 ≤ 2147483647) ∧ ((0 ≤ (48 + a1) ∧ (48 + a1) < (w0.2 3).1) ∧ (∃ Q9 : Option ab_V → List ab_Ob → Prop, ab_Ct d 0 0 mX9_good [ab_O 0, ab_I ((w0.2 3).2 (48 + a1))] [(ab_pf w0 0 0)] Q9 ∧ (∀ r10 : Int, ∀ v11 : ab_Ob, Q9 (some (ab_I r10)) [v11] → Post (some (ab_I r10)) [v11]))))))))))) :
    ab_J x 0 [some (ab_O 0), some (ab_I a1)] [] [w0] kc ks := ab_go hx kX9_weight.2 23 [] 0 h
def mX9_breaks : ab_M := ((yX9_breaks, cX9_breaks, 3, (some .int)), ([9], [(0, 0)], [true], false, false, 0), (false, 9, 2))
def rX9_breaks : List ab_R := [(0, .aload_n 0, 1, 0, 0, 0, [], none),
  (1, .iconst 0, 1, 0, 0, 0, [], none),
  (2, .putfield 100, 3, 9, 0, 0, [], none),
  (5, .aload_n 0, 1, 0, 0, 0, [], none),
  (6, .iload_n 1, 1, 0, 0, 0, [], none),
  (7, .iload_n 2, 1, 0, 0, 0, [], none),
  (8, .invokevirtual 314, 3, 0, 0, 0, [], some mX9_isSpan),
  (11, .ifCond .eq 26, 3, 0, 0, 0, [37], none),
  (14, .aload_n 0, 1, 0, 0, 0, [], none),
  (15, .aload_n 0, 1, 0, 0, 0, [], none),
  (16, .getfield 33, 3, 9, 27, 0, [], none),
  (19, .iload_n 1, 1, 0, 0, 0, [], none),
  (20, .iload_n 2, 1, 0, 0, 0, [], none),
  (21, .aload_n 0, 1, 0, 0, 0, [], none),
  (22, .iload_n 1, 1, 0, 0, 0, [], none),
  (23, .iload_n 2, 1, 0, 0, 0, [], none),
  (24, .invokevirtual 318, 3, 0, 0, 0, [], some mX9_headOf),
  (27, .invokestatic 289, 3, 0, 0, 0, [], some mX9_cube),
  (30, .iaload, 1, 0, 0, 0, [], none),
  (31, .invokevirtual 255, 3, 0, 0, 0, [], some mX9_good),
  (34, .goto 8, 3, 0, 0, 0, [42], none),
  (37, .aload_n 0, 1, 0, 0, 0, [], none),
  (38, .iconst 1, 1, 0, 0, 0, [], none),
  (39, .invokevirtual 229, 3, 0, 0, 0, [], some mX9_refused),
  (42, .ireturn, 1, 0, 0, 0, [], none)]
set_option maxRecDepth 100000 in
theorem kX9_breaks : ab_def_ok mX9_breaks rX9_breaks := ⟨ab_mok_of 1543 108 1541 1542 (by decide +kernel), [0, 0, 1192, 0, 0, 0, 1544, 0, 0, 0, 1219, 0, 0, 0, 0, 0, 1501, 1470, 0, 1509, 0, 0, 0, 1361, 0], by decide +kernel⟩
set_option maxRecDepth 100000 in
theorem vX9_breaks_0 {x : ab_Cx} {d mc ms : Nat} {Post : Option ab_V → List ab_Ob → Prop} (hx : ab_At x mX9_breaks d mc ms Post) (a1 a2 : Int) (w0 : ab_Ob) (kc ks : Nat)
    (h : (∃ Q1 : Option ab_V → List ab_Ob → Prop, ab_Ct d 0 0 mX9_isSpan [ab_O 0, ab_I a1, ab_I a2] [(ab_pf w0 0 0)] Q1 ∧ (∀ r2 : Int, Q1 (some (ab_I r2)) [(ab_pf w0 0 0)] → ((r2 = 0 → (∃ Q3 : Option ab_V → List ab_Ob → Prop, ab_Ct d 0 0 mX9_refused [ab_O 0, ab_I 1] [(ab_pf w0 0 0)] Q3 ∧ (∀ r4 : Int, ∀ v5 : ab_Ob, Q3 (some (ab_I r4)) [v5] → Post (some (ab_I r4)) [v5]))) ∧ (¬ r2 = 0 → (∃ Q6 : Option ab_V → List ab_Ob → Prop, ab_Ct d 0 0 mX9_headOf [ab_O 0, ab_I a1, ab_I a2] [(ab_pf w0 0 0)] Q6 ∧ (∀ r7 : Int, Q6 (some (ab_I r7)) [(ab_pf w0 0 0)] → (∃ Q8 : Option ab_V → List ab_Ob → Prop, ab_Ct d 0 0 mX9_cube [ab_I a1, ab_I a2, ab_I r7] [] Q8 ∧ (∀ r9 : Int, Q8 (some (ab_I r9)) [] → ((0 ≤ r9 ∧ r9 < (w0.2 27).1) ∧ (∃ Q10 : Option ab_V → List ab_Ob → Prop, ab_Ct d 0 0 mX9_good [ab_O 0, ab_I ((w0.2 27).2 r9)] [(ab_pf w0 0 0)] Q10 ∧ (∀ r11 : Int, ∀ v12 : ab_Ob, Q10 (some (ab_I r11)) [v12] → Post (some (ab_I r11)) [v12])))))))))))) :
    ab_J x 0 [some (ab_O 0), some (ab_I a1), some (ab_I a2)] [] [w0] kc ks := ab_go hx kX9_breaks.2 26 [] 0 h
def mX9_head : ab_M := ((yX9_head, cX9_head, 3, (some .int)), ([9], [(0, 0)], [true], false, false, 0), (false, 9, 2))
def rX9_head : List ab_R := [(0, .aload_n 0, 1, 0, 0, 0, [], none),
  (1, .iconst 0, 1, 0, 0, 0, [], none),
  (2, .putfield 100, 3, 9, 0, 0, [], none),
  (5, .aload_n 0, 1, 0, 0, 0, [], none),
  (6, .iload_n 1, 1, 0, 0, 0, [], none),
  (7, .iload_n 2, 1, 0, 0, 0, [], none),
  (8, .invokevirtual 314, 3, 0, 0, 0, [], some mX9_isSpan),
  (11, .ifCond .eq 16, 3, 0, 0, 0, [27], none),
  (14, .aload_n 0, 1, 0, 0, 0, [], none),
  (15, .aload_n 0, 1, 0, 0, 0, [], none),
  (16, .iload_n 1, 1, 0, 0, 0, [], none),
  (17, .iload_n 2, 1, 0, 0, 0, [], none),
  (18, .invokevirtual 318, 3, 0, 0, 0, [], some mX9_headOf),
  (21, .invokevirtual 255, 3, 0, 0, 0, [], some mX9_good),
  (24, .goto 8, 3, 0, 0, 0, [32], none),
  (27, .aload_n 0, 1, 0, 0, 0, [], none),
  (28, .iconst 1, 1, 0, 0, 0, [], none),
  (29, .invokevirtual 229, 3, 0, 0, 0, [], some mX9_refused),
  (32, .ireturn, 1, 0, 0, 0, [], none)]
set_option maxRecDepth 100000 in
theorem kX9_head : ab_def_ok mX9_head rX9_head := ⟨ab_mok_of 1551 108 1549 1550 (by decide +kernel), [0, 0, 1192, 0, 0, 0, 1544, 0, 0, 0, 0, 0, 1501, 1509, 0, 0, 0, 1361, 0], by decide +kernel⟩
set_option maxRecDepth 100000 in
theorem vX9_head_0 {x : ab_Cx} {d mc ms : Nat} {Post : Option ab_V → List ab_Ob → Prop} (hx : ab_At x mX9_head d mc ms Post) (a1 a2 : Int) (w0 : ab_Ob) (kc ks : Nat)
    (h : (∃ Q1 : Option ab_V → List ab_Ob → Prop, ab_Ct d 0 0 mX9_isSpan [ab_O 0, ab_I a1, ab_I a2] [(ab_pf w0 0 0)] Q1 ∧ (∀ r2 : Int, Q1 (some (ab_I r2)) [(ab_pf w0 0 0)] → ((r2 = 0 → (∃ Q3 : Option ab_V → List ab_Ob → Prop, ab_Ct d 0 0 mX9_refused [ab_O 0, ab_I 1] [(ab_pf w0 0 0)] Q3 ∧ (∀ r4 : Int, ∀ v5 : ab_Ob, Q3 (some (ab_I r4)) [v5] → Post (some (ab_I r4)) [v5]))) ∧ (¬ r2 = 0 → (∃ Q6 : Option ab_V → List ab_Ob → Prop, ab_Ct d 0 0 mX9_headOf [ab_O 0, ab_I a1, ab_I a2] [(ab_pf w0 0 0)] Q6 ∧ (∀ r7 : Int, Q6 (some (ab_I r7)) [(ab_pf w0 0 0)] → (∃ Q8 : Option ab_V → List ab_Ob → Prop, ab_Ct d 0 0 mX9_good [ab_O 0, ab_I r7] [(ab_pf w0 0 0)] Q8 ∧ (∀ r9 : Int, ∀ v10 : ab_Ob, Q8 (some (ab_I r9)) [v10] → Post (some (ab_I r9)) [v10]))))))))) :
    ab_J x 0 [some (ab_O 0), some (ab_I a1), some (ab_I a2)] [] [w0] kc ks := ab_go hx kX9_head.2 20 [] 0 h
def mX9_split : ab_M := ((yX9_split, cX9_split, 3, (some .int)), ([9], [(0, 0)], [true], false, false, 0), (false, 9, 2))
def rX9_split : List ab_R := [(0, .aload_n 0, 1, 0, 0, 0, [], none),
  (1, .iconst 0, 1, 0, 0, 0, [], none),
  (2, .putfield 100, 3, 9, 0, 0, [], none),
  (5, .aload_n 0, 1, 0, 0, 0, [], none),
  (6, .iload_n 1, 1, 0, 0, 0, [], none),
  (7, .iload_n 2, 1, 0, 0, 0, [], none),
  (8, .invokevirtual 314, 3, 0, 0, 0, [], some mX9_isSpan),
  (11, .ifCond .eq 26, 3, 0, 0, 0, [37], none),
  (14, .aload_n 0, 1, 0, 0, 0, [], none),
  (15, .aload_n 0, 1, 0, 0, 0, [], none),
  (16, .getfield 36, 3, 9, 28, 0, [], none),
  (19, .iload_n 1, 1, 0, 0, 0, [], none),
  (20, .iload_n 2, 1, 0, 0, 0, [], none),
  (21, .aload_n 0, 1, 0, 0, 0, [], none),
  (22, .iload_n 1, 1, 0, 0, 0, [], none),
  (23, .iload_n 2, 1, 0, 0, 0, [], none),
  (24, .invokevirtual 318, 3, 0, 0, 0, [], some mX9_headOf),
  (27, .invokestatic 289, 3, 0, 0, 0, [], some mX9_cube),
  (30, .iaload, 1, 0, 0, 0, [], none),
  (31, .invokevirtual 255, 3, 0, 0, 0, [], some mX9_good),
  (34, .goto 8, 3, 0, 0, 0, [42], none),
  (37, .aload_n 0, 1, 0, 0, 0, [], none),
  (38, .iconst 1, 1, 0, 0, 0, [], none),
  (39, .invokevirtual 229, 3, 0, 0, 0, [], some mX9_refused),
  (42, .ireturn, 1, 0, 0, 0, [], none)]
set_option maxRecDepth 100000 in
theorem kX9_split : ab_def_ok mX9_split rX9_split := ⟨ab_mok_of 1555 108 1553 1554 (by decide +kernel), [0, 0, 1192, 0, 0, 0, 1544, 0, 0, 0, 1220, 0, 0, 0, 0, 0, 1501, 1470, 0, 1509, 0, 0, 0, 1361, 0], by decide +kernel⟩
set_option maxRecDepth 100000 in
theorem vX9_split_0 {x : ab_Cx} {d mc ms : Nat} {Post : Option ab_V → List ab_Ob → Prop} (hx : ab_At x mX9_split d mc ms Post) (a1 a2 : Int) (w0 : ab_Ob) (kc ks : Nat)
    (h : (∃ Q1 : Option ab_V → List ab_Ob → Prop, ab_Ct d 0 0 mX9_isSpan [ab_O 0, ab_I a1, ab_I a2] [(ab_pf w0 0 0)] Q1 ∧ (∀ r2 : Int, Q1 (some (ab_I r2)) [(ab_pf w0 0 0)] → ((r2 = 0 → (∃ Q3 : Option ab_V → List ab_Ob → Prop, ab_Ct d 0 0 mX9_refused [ab_O 0, ab_I 1] [(ab_pf w0 0 0)] Q3 ∧ (∀ r4 : Int, ∀ v5 : ab_Ob, Q3 (some (ab_I r4)) [v5] → Post (some (ab_I r4)) [v5]))) ∧ (¬ r2 = 0 → (∃ Q6 : Option ab_V → List ab_Ob → Prop, ab_Ct d 0 0 mX9_headOf [ab_O 0, ab_I a1, ab_I a2] [(ab_pf w0 0 0)] Q6 ∧ (∀ r7 : Int, Q6 (some (ab_I r7)) [(ab_pf w0 0 0)] → (∃ Q8 : Option ab_V → List ab_Ob → Prop, ab_Ct d 0 0 mX9_cube [ab_I a1, ab_I a2, ab_I r7] [] Q8 ∧ (∀ r9 : Int, Q8 (some (ab_I r9)) [] → ((0 ≤ r9 ∧ r9 < (w0.2 28).1) ∧ (∃ Q10 : Option ab_V → List ab_Ob → Prop, ab_Ct d 0 0 mX9_good [ab_O 0, ab_I ((w0.2 28).2 r9)] [(ab_pf w0 0 0)] Q10 ∧ (∀ r11 : Int, ∀ v12 : ab_Ob, Q10 (some (ab_I r11)) [v12] → Post (some (ab_I r11)) [v12])))))))))))) :
    ab_J x 0 [some (ab_O 0), some (ab_I a1), some (ab_I a2)] [] [w0] kc ks := ab_go hx kX9_split.2 26 [] 0 h
def mX9_breaksBy : ab_M := ((yX9_breaksBy, cX9_breaksBy, 4, (some .int)), ([9], [(0, 0)], [true], false, false, 0), (false, 9, 3))
def rX9_breaksBy : List ab_R := [(0, .aload_n 0, 1, 0, 0, 0, [], none),
  (1, .iconst 0, 1, 0, 0, 0, [], none),
  (2, .putfield 100, 3, 9, 0, 0, [], none),
  (5, .aload_n 0, 1, 0, 0, 0, [], none),
  (6, .iload_n 1, 1, 0, 0, 0, [], none),
  (7, .iload_n 2, 1, 0, 0, 0, [], none),
  (8, .invokevirtual 314, 3, 0, 0, 0, [], some mX9_isSpan),
  (11, .ifCond .eq 30, 3, 0, 0, 0, [41], none),
  (14, .iload_n 3, 1, 0, 0, 0, [], none),
  (15, .iload_n 1, 1, 0, 0, 0, [], none),
  (16, .iload_n 2, 1, 0, 0, 0, [], none),
  (17, .invokestatic 125, 3, 0, 0, 0, [], some mX9_in),
  (20, .ifCond .eq 21, 3, 0, 0, 0, [41], none),
  (23, .aload_n 0, 1, 0, 0, 0, [], none),
  (24, .aload_n 0, 1, 0, 0, 0, [], none),
  (25, .getfield 33, 3, 9, 27, 0, [], none),
  (28, .iload_n 1, 1, 0, 0, 0, [], none),
  (29, .iload_n 2, 1, 0, 0, 0, [], none),
  (30, .iload_n 3, 1, 0, 0, 0, [], none),
  (31, .invokestatic 289, 3, 0, 0, 0, [], some mX9_cube),
  (34, .iaload, 1, 0, 0, 0, [], none),
  (35, .invokevirtual 255, 3, 0, 0, 0, [], some mX9_good),
  (38, .goto 8, 3, 0, 0, 0, [46], none),
  (41, .aload_n 0, 1, 0, 0, 0, [], none),
  (42, .iconst 1, 1, 0, 0, 0, [], none),
  (43, .invokevirtual 229, 3, 0, 0, 0, [], some mX9_refused),
  (46, .ireturn, 1, 0, 0, 0, [], none)]
set_option maxRecDepth 100000 in
theorem kX9_breaksBy : ab_def_ok mX9_breaksBy rX9_breaksBy := ⟨ab_mok_of 1559 108 1557 1558 (by decide +kernel), [0, 0, 1192, 0, 0, 0, 1544, 0, 0, 0, 0, 1377, 0, 0, 0, 1219, 0, 0, 0, 1470, 0, 1509, 0, 0, 0, 1361, 0], by decide +kernel⟩
set_option maxRecDepth 100000 in
theorem vX9_breaksBy_0 {x : ab_Cx} {d mc ms : Nat} {Post : Option ab_V → List ab_Ob → Prop} (hx : ab_At x mX9_breaksBy d mc ms Post) (a1 a2 a3 : Int) (w0 : ab_Ob) (kc ks : Nat)
    (h : (∃ Q1 : Option ab_V → List ab_Ob → Prop, ab_Ct d 0 0 mX9_isSpan [ab_O 0, ab_I a1, ab_I a2] [(ab_pf w0 0 0)] Q1 ∧ (∀ r2 : Int, Q1 (some (ab_I r2)) [(ab_pf w0 0 0)] → ((r2 = 0 → (∃ Q3 : Option ab_V → List ab_Ob → Prop, ab_Ct d 0 0 mX9_refused [ab_O 0, ab_I 1] [(ab_pf w0 0 0)] Q3 ∧ (∀ r4 : Int, ∀ v5 : ab_Ob, Q3 (some (ab_I r4)) [v5] → Post (some (ab_I r4)) [v5]))) ∧ (¬ r2 = 0 → (∃ Q6 : Option ab_V → List ab_Ob → Prop, ab_Ct d 0 0 mX9_in [ab_I a3, ab_I a1, ab_I a2] [] Q6 ∧ (∀ r7 : Int, Q6 (some (ab_I r7)) [] → ((r7 = 0 → (∃ Q8 : Option ab_V → List ab_Ob → Prop, ab_Ct d 0 0 mX9_refused [ab_O 0, ab_I 1] [(ab_pf w0 0 0)] Q8 ∧ (∀ r9 : Int, ∀ v10 : ab_Ob, Q8 (some (ab_I r9)) [v10] → Post (some (ab_I r9)) [v10]))) ∧ (¬ r7 = 0 → (∃ Q11 : Option ab_V → List ab_Ob → Prop, ab_Ct d 0 0 mX9_cube [ab_I a1, ab_I a2, ab_I a3] [] Q11 ∧ (∀ r12 : Int, Q11 (some (ab_I r12)) [] → ((0 ≤ r12 ∧ r12 < (w0.2 27).1) ∧ (∃ Q13 : Option ab_V → List ab_Ob → Prop, ab_Ct d 0 0 mX9_good [ab_O 0, ab_I ((w0.2 27).2 r12)] [(ab_pf w0 0 0)] Q13 ∧ (∀ r14 : Int, ∀ v15 : ab_Ob, Q13 (some (ab_I r14)) [v15] → Post (some (ab_I r14)) [v15])))))))))))))) :
    ab_J x 0 [some (ab_O 0), some (ab_I a1), some (ab_I a2), some (ab_I a3)] [] [w0] kc ks := ab_go hx kX9_breaksBy.2 28 [] 0 h
