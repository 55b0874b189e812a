def mX9_areAlike : ab_M := ((yX9_areAlike, cX9_areAlike, 12, (some .boolean)), ([9], [(0, 0)], [true], false, false, 0), (false, 9, 3))
def rX9_areAlike : List ab_R := [(0, .aload_n 0, 1, 0, 0, 0, [], none),
  (1, .iconst 0, 1, 0, 0, 0, [], none),
  (2, .putfield 321, 3, 9, 41, 0, [], none),
  (5, .aload_n 0, 1, 0, 0, 0, [], none),
  (6, .iload_n 1, 1, 0, 0, 0, [], none),
  (7, .iload_n 1, 1, 0, 0, 0, [], none),
  (8, .iload_n 3, 1, 0, 0, 0, [], none),
  (9, .iadd, 1, 0, 0, 0, [], none),
  (10, .iconst 1, 1, 0, 0, 0, [], none),
  (11, .isub, 1, 0, 0, 0, [], none),
  (12, .aload_n 0, 1, 0, 0, 0, [], none),
  (13, .iload_n 1, 1, 0, 0, 0, [], none),
  (14, .iload_n 1, 1, 0, 0, 0, [], none),
  (15, .iload_n 3, 1, 0, 0, 0, [], none),
  (16, .iadd, 1, 0, 0, 0, [], none),
  (17, .iconst 1, 1, 0, 0, 0, [], none),
  (18, .isub, 1, 0, 0, 0, [], none),
  (19, .invokevirtual 318, 3, 0, 0, 0, [], some mX9_headOf),
  (22, .iload_n 2, 1, 0, 0, 0, [], none),
  (23, .invokevirtual 327, 3, 0, 0, 0, [], some mX9_goes),
  (26, .aload_n 0, 1, 0, 0, 0, [], none),
  (27, .iload_n 1, 1, 0, 0, 0, [], none),
  (28, .iload_n 1, 1, 0, 0, 0, [], none),
  (29, .iload_n 3, 1, 0, 0, 0, [], none),
  (30, .iadd, 1, 0, 0, 0, [], none),
  (31, .iconst 1, 1, 0, 0, 0, [], none),
  (32, .isub, 1, 0, 0, 0, [], none),
  (33, .invokevirtual 318, 3, 0, 0, 0, [], some mX9_headOf),
  (36, .iload_n 1, 1, 0, 0, 0, [], none),
  (37, .isub, 1, 0, 0, 0, [], none),
  (38, .aload_n 0, 1, 0, 0, 0, [], none),
  (39, .iload_n 2, 1, 0, 0, 0, [], none),
  (40, .iload_n 2, 1, 0, 0, 0, [], none),
  (41, .iload_n 3, 1, 0, 0, 0, [], none),
  (42, .iadd, 1, 0, 0, 0, [], none),
  (43, .iconst 1, 1, 0, 0, 0, [], none),
  (44, .isub, 1, 0, 0, 0, [], none),
  (45, .invokevirtual 318, 3, 0, 0, 0, [], some mX9_headOf),
  (48, .iload_n 2, 1, 0, 0, 0, [], none),
  (49, .isub, 1, 0, 0, 0, [], none),
  (50, .if_icmp .ne 7, 3, 0, 0, 0, [57], none),
  (53, .iconst 1, 1, 0, 0, 0, [], none),
  (54, .goto 4, 3, 0, 0, 0, [58], none),
  (57, .iconst 0, 1, 0, 0, 0, [], none),
  (58, .istore 4, 2, 0, 0, 0, [], none),
  (60, .iload 4, 2, 0, 0, 0, [], none),
  (62, .ifCond .eq 208, 3, 0, 0, 0, [270], none),
  (65, .aload_n 0, 1, 0, 0, 0, [], none),
  (66, .getfield 321, 3, 9, 41, 0, [], none),
  (69, .ifCond .le 201, 3, 0, 0, 0, [270], none),
  (72, .aload_n 0, 1, 0, 0, 0, [], none),
  (73, .dup, 1, 0, 0, 0, [], none),
  (74, .getfield 321, 3, 9, 41, 0, [], none),
  (77, .iconst 1, 1, 0, 0, 0, [], none),
  (78, .isub, 1, 0, 0, 0, [], none),
  (79, .putfield 321, 3, 9, 41, 0, [], none),
  (82, .aload_n 0, 1, 0, 0, 0, [], none),
  (83, .getfield 61, 3, 9, 36, 0, [], none),
  (86, .aload_n 0, 1, 0, 0, 0, [], none),
  (87, .getfield 321, 3, 9, 41, 0, [], none),
  (90, .iaload, 1, 0, 0, 0, [], none),
  (91, .istore 5, 2, 0, 0, 0, [], none),
  (93, .aload_n 0, 1, 0, 0, 0, [], none),
  (94, .getfield 64, 3, 9, 37, 0, [], none),
  (97, .aload_n 0, 1, 0, 0, 0, [], none),
  (98, .getfield 321, 3, 9, 41, 0, [], none),
  (101, .iaload, 1, 0, 0, 0, [], none),
  (102, .istore 6, 2, 0, 0, 0, [], none),
  (104, .aload_n 0, 1, 0, 0, 0, [], none),
  (105, .getfield 67, 3, 9, 38, 0, [], none),
  (108, .aload_n 0, 1, 0, 0, 0, [], none),
  (109, .getfield 321, 3, 9, 41, 0, [], none),
  (112, .iaload, 1, 0, 0, 0, [], none),
  (113, .istore 7, 2, 0, 0, 0, [], none),
  (115, .iload_n 2, 1, 0, 0, 0, [], none),
  (116, .iload_n 1, 1, 0, 0, 0, [], none),
  (117, .isub, 1, 0, 0, 0, [], none),
  (118, .istore 8, 2, 0, 0, 0, [], none),
  (120, .iload 5, 2, 0, 0, 0, [], none),
  (122, .iload 6, 2, 0, 0, 0, [], none),
  (124, .if_icmp .ne 6, 3, 0, 0, 0, [130], none),
  (127, .goto (-67), 3, 0, 0, 0, [60], none),
  (130, .aload_n 0, 1, 0, 0, 0, [], none),
  (131, .getfield 36, 3, 9, 28, 0, [], none),
  (134, .iload 5, 2, 0, 0, 0, [], none),
  (136, .iload 6, 2, 0, 0, 0, [], none),
  (138, .iload 7, 2, 0, 0, 0, [], none),
  (140, .invokestatic 289, 3, 0, 0, 0, [], some mX9_cube),
  (143, .iaload, 1, 0, 0, 0, [], none),
  (144, .istore 9, 2, 0, 0, 0, [], none),
  (146, .aload_n 0, 1, 0, 0, 0, [], none),
  (147, .getfield 39, 3, 9, 29, 0, [], none),
  (150, .iload 5, 2, 0, 0, 0, [], none),
  (152, .iload 6, 2, 0, 0, 0, [], none),
  (154, .iload 7, 2, 0, 0, 0, [], none),
  (156, .invokestatic 289, 3, 0, 0, 0, [], some mX9_cube),
  (159, .iaload, 1, 0, 0, 0, [], none),
  (160, .istore 10, 2, 0, 0, 0, [], none),
  (162, .iload 5, 2, 0, 0, 0, [], none),
  (164, .iload 8, 2, 0, 0, 0, [], none),
  (166, .iadd, 1, 0, 0, 0, [], none),
  (167, .iload 6, 2, 0, 0, 0, [], none),
  (169, .iload 8, 2, 0, 0, 0, [], none),
  (171, .iadd, 1, 0, 0, 0, [], none),
  (172, .iload 7, 2, 0, 0, 0, [], none),
  (174, .iload 8, 2, 0, 0, 0, [], none),
  (176, .iadd, 1, 0, 0, 0, [], none),
  (177, .invokestatic 289, 3, 0, 0, 0, [], some mX9_cube),
  (180, .istore 11, 2, 0, 0, 0, [], none),
  (182, .iload 9, 2, 0, 0, 0, [], none),
  (184, .iload 8, 2, 0, 0, 0, [], none),
  (186, .iadd, 1, 0, 0, 0, [], none),
  (187, .aload_n 0, 1, 0, 0, 0, [], none),
  (188, .getfield 36, 3, 9, 28, 0, [], none),
  (191, .iload 11, 2, 0, 0, 0, [], none),
  (193, .iaload, 1, 0, 0, 0, [], none),
  (194, .if_icmp .ne 22, 3, 0, 0, 0, [216], none),
  (197, .iload 10, 2, 0, 0, 0, [], none),
  (199, .iload 8, 2, 0, 0, 0, [], none),
  (201, .iadd, 1, 0, 0, 0, [], none),
  (202, .aload_n 0, 1, 0, 0, 0, [], none),
  (203, .getfield 39, 3, 9, 29, 0, [], none),
  (206, .iload 11, 2, 0, 0, 0, [], none),
  (208, .iaload, 1, 0, 0, 0, [], none),
  (209, .if_icmp .ne 7, 3, 0, 0, 0, [216], none),
  (212, .iconst 1, 1, 0, 0, 0, [], none),
  (213, .goto 4, 3, 0, 0, 0, [217], none),
  (216, .iconst 0, 1, 0, 0, 0, [], none),
  (217, .istore 4, 2, 0, 0, 0, [], none),
  (219, .aload_n 0, 1, 0, 0, 0, [], none),
  (220, .iload 5, 2, 0, 0, 0, [], none),
  (222, .iload 9, 2, 0, 0, 0, [], none),
  (224, .iload 7, 2, 0, 0, 0, [], none),
  (226, .iload 9, 2, 0, 0, 0, [], none),
  (228, .if_icmp .gt 8, 3, 0, 0, 0, [236], none),
  (231, .iload 7, 2, 0, 0, 0, [], none),
  (233, .goto 5, 3, 0, 0, 0, [238], none),
  (236, .iload 10, 2, 0, 0, 0, [], none),
  (238, .iload_n 2, 1, 0, 0, 0, [], none),
  (239, .invokevirtual 327, 3, 0, 0, 0, [], some mX9_goes),
  (242, .aload_n 0, 1, 0, 0, 0, [], none),
  (243, .iload 9, 2, 0, 0, 0, [], none),
  (245, .iconst 1, 1, 0, 0, 0, [], none),
  (246, .iadd, 1, 0, 0, 0, [], none),
  (247, .iload 6, 2, 0, 0, 0, [], none),
  (249, .iload 7, 2, 0, 0, 0, [], none),
  (251, .iload 9, 2, 0, 0, 0, [], none),
  (253, .if_icmp .gt 8, 3, 0, 0, 0, [261], none),
  (256, .iload 10, 2, 0, 0, 0, [], none),
  (258, .goto 5, 3, 0, 0, 0, [263], none),
  (261, .iload 7, 2, 0, 0, 0, [], none),
  (263, .iload_n 2, 1, 0, 0, 0, [], none),
  (264, .invokevirtual 327, 3, 0, 0, 0, [], some mX9_goes),
  (267, .goto (-207), 3, 0, 0, 0, [60], none),
  (270, .iload 4, 2, 0, 0, 0, [], none),
  (272, .ireturn, 1, 0, 0, 0, [], none)]
set_option maxRecDepth 100000 in
theorem kX9_areAlike : ab_def_ok mX9_areAlike rX9_areAlike := ⟨ab_mok_of 1723 108 1722 94 (by decide +kernel), [0, 0, 1233, 0, 0, 0, 0, 0, 0, 0, 0, 0, 0, 0, 0, 0, 0, 1501, 0, 1505, 0, 0, 0, 0, 0, 0, 0, 1501, 0, 0, 0, 0, 0, 0, 0, 0, 0, 1501, 0, 0, 0, 0, 0, 0, 0, 0, 0, 0, 1233, 0, 0, 0, 1233, 0, 0, 1233, 0, 1228, 0, 1233, 0, 0, 0, 1229, 0, 1233, 0, 0, 0, 1230, 0, 1233, 0, 0, 0, 0, 0, 0, 0, 0, 0, 0, 0, 1220, 0, 0, 0, 1470, 0, 0, 0, 1221, 0, 0, 0, 1470, 0, 0, 0, 0, 0, 0, 0, 0, 0, 0, 0, 1470, 0, 0, 0, 0, 0, 1220, 0, 0, 0, 0, 0, 0, 0, 1221, 0, 0, 0, 0, 0, 0, 0, 0, 0, 0, 0, 0, 0, 0, 0, 0, 0, 1505, 0, 0, 0, 0, 0, 0, 0, 0, 0, 0, 0, 0, 1505, 0, 0, 0], by decide +kernel⟩
set_option maxRecDepth 100000 in
theorem vX9_areAlike_0 {x : ab_Cx} {d mc ms : Nat} {Post : Option ab_V → List ab_Ob → Prop} (hx : ab_At x mX9_areAlike d mc ms Post) (a1 a2 a3 : Int) (w0 : ab_Ob) (kc ks : Nat)
    (h : ((-2147483648 ≤ a1 + a3 ∧ a1 + a3 ≤ 2147483647) ∧ ((-2147483648 ≤ (a1 + a3) - 1 ∧ (a1 + a3) - 1 ≤ 2147483647) ∧ ((-2147483648 ≤ a1 + a3 ∧ a1 + a3 ≤ 2147483647) ∧ ((-2147483648 ≤ (a1 + a3) - 1 ∧ (a1 + a3) - 1 ≤ 2147483647) ∧ (∃ Q1 : Option ab_V → List ab_Ob → Prop, ab_Ct d 0 0 mX9_headOf [ab_O 0, ab_I a1, ab_I ((a1 + a3) - 1)] [(ab_pf w0 41 0)] Q1 ∧ (∀ r2 : Int, Q1 (some (ab_I r2)) [(ab_pf w0 41 0)] → (∃ Q3 : Option ab_V → List ab_Ob → Prop, ab_Ct d 0 0 mX9_goes [ab_O 0, ab_I a1, ab_I ((a1 + a3) - 1), ab_I r2, ab_I a2] [(ab_pf w0 41 0)] Q3 ∧ (∀ v4 : ab_Ob, Q3 none [v4] → ((-2147483648 ≤ a1 + a3 ∧ a1 + a3 ≤ 2147483647) ∧ ((-2147483648 ≤ (a1 + a3) - 1 ∧ (a1 + a3) - 1 ≤ 2147483647) ∧ (∃ Q5 : Option ab_V → List ab_Ob → Prop, ab_Ct d 0 0 mX9_headOf [ab_O 0, ab_I a1, ab_I ((a1 + a3) - 1)] [v4] Q5 ∧ (∀ r6 : Int, Q5 (some (ab_I r6)) [v4] → ((-2147483648 ≤ r6 - a1 ∧ r6 - a1 ≤ 2147483647) ∧ ((-2147483648 ≤ a2 + a3 ∧ a2 + a3 ≤ 2147483647) ∧ ((-2147483648 ≤ (a2 + a3) - 1 ∧ (a2 + a3) - 1 ≤ 2147483647) ∧ (∃ Q7 : Option ab_V → List ab_Ob → Prop, ab_Ct d 0 0 mX9_headOf [ab_O 0, ab_I a2, ab_I ((a2 + a3) - 1)] [v4] Q7 ∧ (∀ r8 : Int, Q7 (some (ab_I r8)) [v4] → ((-2147483648 ≤ r8 - a2 ∧ r8 - a2 ≤ 2147483647) ∧ ((¬ (r6 - a1) = (r8 - a2) → ab_J x 58 [some (ab_O 0), some (ab_I a1), some (ab_I a2), none, none, none, none, none, none, none, none, none] [ab_I 0] [v4] kc ks) ∧ ((r6 - a1) = (r8 - a2) → ab_J x 58 [some (ab_O 0), some (ab_I a1), some (ab_I a2), none, none, none, none, none, none, none, none, none] [ab_I 1] [v4] kc ks))))))))))))))))))))) :
    ab_J x 0 [some (ab_O 0), some (ab_I a1), some (ab_I a2), some (ab_I a3), none, none, none, none, none, none, none, none] [] [w0] kc ks := ab_go hx kX9_areAlike.2 48 [(58, [true, true, true, false, false, false, false, false, false, false, false, false]), (60, [true, true, true, false, true, false, false, false, false, false, false, false]), (216, [true, true, true, false, false, true, true, true, false, true, true, false]), (217, [true, true, true, false, false, true, true, true, false, true, true, false]), (238, [true, true, true, false, true, false, true, true, false, true, true, false]), (263, [true, true, true, false, true, false, false, false, false, false, false, false]), (270, [false, false, false, false, true, false, false, false, false, false, false, false])] 0 h
set_option maxRecDepth 100000 in
theorem vX9_areAlike_58 {x : ab_Cx} {d mc ms : Nat} {Post : Option ab_V → List ab_Ob → Prop} (hx : ab_At x mX9_areAlike d mc ms Post) (l1 l2 t0 : Int) (w0 : ab_Ob) (kc ks : Nat)
    (h : ab_J x 60 [some (ab_O 0), some (ab_I l1), some (ab_I l2), none, some (ab_I t0), none, none, none, none, none, none, none] [] [w0] kc ks) :
    ab_J x 58 [some (ab_O 0), some (ab_I l1), some (ab_I l2), none, none, none, none, none, none, none, none, none] [ab_I t0] [w0] kc ks := ab_go hx kX9_areAlike.2 6 [(58, [true, true, true, false, false, false, false, false, false, false, false, false]), (60, [true, true, true, false, true, false, false, false, false, false, false, false]), (216, [true, true, true, false, false, true, true, true, false, true, true, false]), (217, [true, true, true, false, false, true, true, true, false, true, true, false]), (238, [true, true, true, false, true, false, true, true, false, true, true, false]), (263, [true, true, true, false, true, false, false, false, false, false, false, false]), (270, [false, false, false, false, true, false, false, false, false, false, false, false])] 58 h
set_option maxRecDepth 100000 in
theorem vX9_areAlike_60 {x : ab_Cx} {d mc ms : Nat} {Post : Option ab_V → List ab_Ob → Prop} (hx : ab_At x mX9_areAlike d mc ms Post) (l1 l2 l4 : Int) (w0 : ab_Ob) (kc ks : Nat)
    (h : ((l4 = 0 → ab_J x 270 [none, none, none, none, some (ab_I l4), none, none, none, none, none, none, none] [] [w0] kc ks) ∧ (¬ l4 = 0 → (((w0.1 41) ≤ 0 → ab_J x 270 [none, none, none, none, some (ab_I l4), none, none, none, none, none, none, none] [] [w0] kc ks) ∧ (¬ (w0.1 41) ≤ 0 → ((-2147483648 ≤ (w0.1 41) - 1 ∧ (w0.1 41) - 1 ≤ 2147483647) ∧ ((0 ≤ ((w0.1 41) - 1) ∧ ((w0.1 41) - 1) < (w0.2 36).1) ∧ ((0 ≤ ((w0.1 41) - 1) ∧ ((w0.1 41) - 1) < (w0.2 37).1) ∧ ((0 ≤ ((w0.1 41) - 1) ∧ ((w0.1 41) - 1) < (w0.2 38).1) ∧ ((-2147483648 ≤ l2 - l1 ∧ l2 - l1 ≤ 2147483647) ∧ ((¬ ((w0.2 36).2 ((w0.1 41) - 1)) = ((w0.2 37).2 ((w0.1 41) - 1)) → (∃ Q1 : Option ab_V → List ab_Ob → Prop, ab_Ct d 0 0 mX9_cube [ab_I ((w0.2 36).2 ((w0.1 41) - 1)), ab_I ((w0.2 37).2 ((w0.1 41) - 1)), ab_I ((w0.2 38).2 ((w0.1 41) - 1))] [] Q1 ∧ (∀ r2 : Int, Q1 (some (ab_I r2)) [] → ((0 ≤ r2 ∧ r2 < (w0.2 28).1) ∧ (∃ Q3 : Option ab_V → List ab_Ob → Prop, ab_Ct d 0 0 mX9_cube [ab_I ((w0.2 36).2 ((w0.1 41) - 1)), ab_I ((w0.2 37).2 ((w0.1 41) - 1)), ab_I ((w0.2 38).2 ((w0.1 41) - 1))] [] Q3 ∧ (∀ r4 : Int, Q3 (some (ab_I r4)) [] → ((0 ≤ r4 ∧ r4 < (w0.2 29).1) ∧ ((-2147483648 ≤ ((w0.2 36).2 ((w0.1 41) - 1)) + (l2 - l1) ∧ ((w0.2 36).2 ((w0.1 41) - 1)) + (l2 - l1) ≤ 2147483647) ∧ ((-2147483648 ≤ ((w0.2 37).2 ((w0.1 41) - 1)) + (l2 - l1) ∧ ((w0.2 37).2 ((w0.1 41) - 1)) + (l2 - l1) ≤ 2147483647) ∧ ((-2147483648 ≤ ((w0.2 38).2 ((w0.1 41) - 1)) + (l2 - l1) ∧ ((w0.2 38).2 ((w0.1 41) - 1)) + (l2 - l1) ≤ 2147483647) ∧ (∃ Q5 : Option ab_V → List ab_Ob → Prop, ab_Ct d 0 0 mX9_cube [ab_I (((w0.2 36).2 ((w0.1 41) - 1)) + (l2 - l1)), ab_I (((w0.2 37).2 ((w0.1 41) - 1)) + (l2 - l1)), ab_I (((w0.2 38).2 ((w0.1 41) - 1)) + (l2 - l1))] [] Q5 ∧ (∀ r6 : Int, Q5 (some (ab_I r6)) [] → ((-2147483648 ≤ ((w0.2 28).2 r2) + (l2 - l1) ∧ ((w0.2 28).2 r2) + (l2 - l1) ≤ 2147483647) ∧ ((0 ≤ r6 ∧ r6 < (w0.2 28).1) ∧ ((¬ (((w0.2 28).2 r2) + (l2 - l1)) = ((w0.2 28).2 r6) → ab_J x 216 [some (ab_O 0), some (ab_I l1), some (ab_I l2), none, none, some (ab_I ((w0.2 36).2 ((w0.1 41) - 1))), some (ab_I ((w0.2 37).2 ((w0.1 41) - 1))), some (ab_I ((w0.2 38).2 ((w0.1 41) - 1))), none, some (ab_I ((w0.2 28).2 r2)), some (ab_I ((w0.2 29).2 r4)), none] [] [(ab_pf w0 41 ((w0.1 41) - 1))] kc ks) ∧ ((((w0.2 28).2 r2) + (l2 - l1)) = ((w0.2 28).2 r6) → ((-2147483648 ≤ ((w0.2 29).2 r4) + (l2 - l1) ∧ ((w0.2 29).2 r4) + (l2 - l1) ≤ 2147483647) ∧ ((0 ≤ r6 ∧ r6 < (w0.2 29).1) ∧ ((¬ (((w0.2 29).2 r4) + (l2 - l1)) = ((w0.2 29).2 r6) → ab_J x 216 [some (ab_O 0), some (ab_I l1), some (ab_I l2), none, none, some (ab_I ((w0.2 36).2 ((w0.1 41) - 1))), some (ab_I ((w0.2 37).2 ((w0.1 41) - 1))), some (ab_I ((w0.2 38).2 ((w0.1 41) - 1))), none, some (ab_I ((w0.2 28).2 r2)), some (ab_I ((w0.2 29).2 r4)), none] [] [(ab_pf w0 41 ((w0.1 41) - 1))] kc ks) ∧ ((((w0.2 29).2 r4) + (l2 - l1)) = ((w0.2 29).2 r6) → ab_J x 217 [some (ab_O 0), some (ab_I l1), some (ab_I l2), none, none, some (ab_I ((w0.2 36).2 ((w0.1 41) - 1))), some (ab_I ((w0.2 37).2 ((w0.1 41) - 1))), some (ab_I ((w0.2 38).2 ((w0.1 41) - 1))), none, some (ab_I ((w0.2 28).2 r2)), some (ab_I ((w0.2 29).2 r4)), none] [ab_I 1] [(ab_pf w0 41 ((w0.1 41) - 1))] kc ks)))))))))))))))))))) ∧ (((w0.2 36).2 ((w0.1 41) - 1)) = ((w0.2 37).2 ((w0.1 41) - 1)) → ab_J x 60 [some (ab_O 0), some (ab_I l1), some (ab_I l2), none, some (ab_I l4), none, none, none, none, none, none, none] [] [(ab_pf w0 41 ((w0.1 41) - 1))] kc ks)))))))))))) :
    ab_J x 60 [some (ab_O 0), some (ab_I l1), some (ab_I l2), none, some (ab_I l4), none, none, none, none, none, none, none] [] [w0] kc ks := ab_go hx kX9_areAlike.2 86 [(58, [true, true, true, false, false, false, false, false, false, false, false, false]), (60, [true, true, true, false, true, false, false, false, false, false, false, false]), (216, [true, true, true, false, false, true, true, true, false, true, true, false]), (217, [true, true, true, false, false, true, true, true, false, true, true, false]), (238, [true, true, true, false, true, false, true, true, false, true, true, false]), (263, [true, true, true, false, true, false, false, false, false, false, false, false]), (270, [false, false, false, false, true, false, false, false, false, false, false, false])] 60 h
set_option maxRecDepth 100000 in
theorem vX9_areAlike_270 {x : ab_Cx} {d mc ms : Nat} {Post : Option ab_V → List ab_Ob → Prop} (hx : ab_At x mX9_areAlike d mc ms Post) (l4 : Int) (w0 : ab_Ob) (kc ks : Nat)
    (h : ((l4 = 0 ∨ l4 = 1) ∧ Post (some (ab_I l4)) [w0])) :
    ab_J x 270 [none, none, none, none, some (ab_I l4), none, none, none, none, none, none, none] [] [w0] kc ks := ab_go hx kX9_areAlike.2 6 [(58, [true, true, true, false, false, false, false, false, false, false, false, false]), (60, [true, true, true, false, true, false, false, false, false, false, false, false]), (216, [true, true, true, false, false, true, true, true, false, true, true, false]), (217, [true, true, true, false, false, true, true, true, false, true, true, false]), (238, [true, true, true, false, true, false, true, true, false, true, true, false]), (263, [true, true, true, false, true, false, false, false, false, false, false, false]), (270, [false, false, false, false, true, false, false, false, false, false, false, false])] 270 h
set_option maxRecDepth 100000 in
theorem vX9_areAlike_216 {x : ab_Cx} {d mc ms : Nat} {Post : Option ab_V → List ab_Ob → Prop} (hx : ab_At x mX9_areAlike d mc ms Post) (l1 l2 l5 l6 l7 l9 l10 : Int) (w0 : ab_Ob) (kc ks : Nat)
    (h : ab_J x 217 [some (ab_O 0), some (ab_I l1), some (ab_I l2), none, none, some (ab_I l5), some (ab_I l6), some (ab_I l7), none, some (ab_I l9), some (ab_I l10), none] [ab_I 0] [w0] kc ks) :
    ab_J x 216 [some (ab_O 0), some (ab_I l1), some (ab_I l2), none, none, some (ab_I l5), some (ab_I l6), some (ab_I l7), none, some (ab_I l9), some (ab_I l10), none] [] [w0] kc ks := ab_go hx kX9_areAlike.2 6 [(58, [true, true, true, false, false, false, false, false, false, false, false, false]), (60, [true, true, true, false, true, false, false, false, false, false, false, false]), (216, [true, true, true, false, false, true, true, true, false, true, true, false]), (217, [true, true, true, false, false, true, true, true, false, true, true, false]), (238, [true, true, true, false, true, false, true, true, false, true, true, false]), (263, [true, true, true, false, true, false, false, false, false, false, false, false]), (270, [false, false, false, false, true, false, false, false, false, false, false, false])] 216 h
set_option maxRecDepth 100000 in
theorem vX9_areAlike_217 {x : ab_Cx} {d mc ms : Nat} {Post : Option ab_V → List ab_Ob → Prop} (hx : ab_At x mX9_areAlike d mc ms Post) (l1 l2 l5 l6 l7 l9 l10 t0 : Int) (w0 : ab_Ob) (kc ks : Nat)
    (h : ((l9 < l7 → ab_J x 238 [some (ab_O 0), some (ab_I l1), some (ab_I l2), none, some (ab_I t0), none, some (ab_I l6), some (ab_I l7), none, some (ab_I l9), some (ab_I l10), none] [ab_I l10, ab_I l9, ab_I l5, ab_O 0] [w0] kc ks) ∧ (¬ l9 < l7 → ab_J x 238 [some (ab_O 0), some (ab_I l1), some (ab_I l2), none, some (ab_I t0), none, some (ab_I l6), some (ab_I l7), none, some (ab_I l9), some (ab_I l10), none] [ab_I l7, ab_I l9, ab_I l5, ab_O 0] [w0] kc ks))) :
    ab_J x 217 [some (ab_O 0), some (ab_I l1), some (ab_I l2), none, none, some (ab_I l5), some (ab_I l6), some (ab_I l7), none, some (ab_I l9), some (ab_I l10), none] [ab_I t0] [w0] kc ks := ab_go hx kX9_areAlike.2 14 [(58, [true, true, true, false, false, false, false, false, false, false, false, false]), (60, [true, true, true, false, true, false, false, false, false, false, false, false]), (216, [true, true, true, false, false, true, true, true, false, true, true, false]), (217, [true, true, true, false, false, true, true, true, false, true, true, false]), (238, [true, true, true, false, true, false, true, true, false, true, true, false]), (263, [true, true, true, false, true, false, false, false, false, false, false, false]), (270, [false, false, false, false, true, false, false, false, false, false, false, false])] 217 h
set_option maxRecDepth 100000 in
theorem vX9_areAlike_238 {x : ab_Cx} {d mc ms : Nat} {Post : Option ab_V → List ab_Ob → Prop} (hx : ab_At x mX9_areAlike d mc ms Post) (l1 l2 l4 l6 l7 l9 l10 t0 t1 t2 : Int) (w0 : ab_Ob) (kc ks : Nat)
    (h : (∃ Q1 : Option ab_V → List ab_Ob → Prop, ab_Ct d 0 0 mX9_goes [ab_O 0, ab_I t2, ab_I t1, ab_I t0, ab_I l2] [w0] Q1 ∧ (∀ v2 : ab_Ob, Q1 none [v2] → ((-2147483648 ≤ l9 + 1 ∧ l9 + 1 ≤ 2147483647) ∧ ((l9 < l7 → ab_J x 263 [some (ab_O 0), some (ab_I l1), some (ab_I l2), none, some (ab_I l4), none, none, none, none, none, none, none] [ab_I l7, ab_I l6, ab_I (l9 + 1), ab_O 0] [v2] kc ks) ∧ (¬ l9 < l7 → ab_J x 263 [some (ab_O 0), some (ab_I l1), some (ab_I l2), none, some (ab_I l4), none, none, none, none, none, none, none] [ab_I l10, ab_I l6, ab_I (l9 + 1), ab_O 0] [v2] kc ks)))))) :
    ab_J x 238 [some (ab_O 0), some (ab_I l1), some (ab_I l2), none, some (ab_I l4), none, some (ab_I l6), some (ab_I l7), none, some (ab_I l9), some (ab_I l10), none] [ab_I t0, ab_I t1, ab_I t2, ab_O 0] [w0] kc ks := ab_go hx kX9_areAlike.2 17 [(58, [true, true, true, false, false, false, false, false, false, false, false, false]), (60, [true, true, true, false, true, false, false, false, false, false, false, false]), (216, [true, true, true, false, false, true, true, true, false, true, true, false]), (217, [true, true, true, false, false, true, true, true, false, true, true, false]), (238, [true, true, true, false, true, false, true, true, false, true, true, false]), (263, [true, true, true, false, true, false, false, false, false, false, false, false]), (270, [false, false, false, false, true, false, false, false, false, false, false, false])] 238 h
set_option maxRecDepth 100000 in
theorem vX9_areAlike_263 {x : ab_Cx} {d mc ms : Nat} {Post : Option ab_V → List ab_Ob → Prop} (hx : ab_At x mX9_areAlike d mc ms Post) (l1 l2 l4 t0 t1 t2 : Int) (w0 : ab_Ob) (kc ks : Nat)
    (h : (∃ Q1 : Option ab_V → List ab_Ob → Prop, ab_Ct d 0 0 mX9_goes [ab_O 0, ab_I t2, ab_I t1, ab_I t0, ab_I l2] [w0] Q1 ∧ (∀ v2 : ab_Ob, Q1 none [v2] → ab_J x 60 [some (ab_O 0), some (ab_I l1), some (ab_I l2), none, some (ab_I l4), none, none, none, none, none, none, none] [] [v2] kc ks))) :
    ab_J x 263 [some (ab_O 0), some (ab_I l1), some (ab_I l2), none, some (ab_I l4), none, none, none, none, none, none, none] [ab_I t0, ab_I t1, ab_I t2, ab_O 0] [w0] kc ks := ab_go hx kX9_areAlike.2 8 [(58, [true, true, true, false, false, false, false, false, false, false, false, false]), (60, [true, true, true, false, true, false, false, false, false, false, false, false]), (216, [true, true, true, false, false, true, true, true, false, true, true, false]), (217, [true, true, true, false, false, true, true, true, false, true, true, false]), (238, [true, true, true, false, true, false, true, true, false, true, true, false]), (263, [true, true, true, false, true, false, false, false, false, false, false, false]), (270, [false, false, false, false, true, false, false, false, false, false, false, false])] 263 h
def mX9_alike : ab_M := ((yX9_alike, cX9_alike, 4, (some .int)), ([9], [(0, 0)], [true], false, false, 0), (false, 9, 3))
def rX9_alike : List ab_R := [(0, .aload_n 0, 1, 0, 0, 0, [], none),
  (1, .iconst 0, 1, 0, 0, 0, [], none),
  (2, .putfield 100, 3, 9, 0, 0, [], none),
  (5, .aload_n 0, 1, 0, 0, 0, [], none),
  (6, .iload_n 1, 1, 0, 0, 0, [], none),
  (7, .iload_n 2, 1, 0, 0, 0, [], none),
  (8, .iload_n 3, 1, 0, 0, 0, [], none),
  (9, .invokevirtual 378, 3, 0, 0, 0, [], some mX9_areSpans),
  (12, .ifCond .eq 25, 3, 0, 0, 0, [37], none),
  (15, .aload_n 0, 1, 0, 0, 0, [], none),
  (16, .aload_n 0, 1, 0, 0, 0, [], none),
  (17, .iload_n 1, 1, 0, 0, 0, [], none),
  (18, .iload_n 2, 1, 0, 0, 0, [], none),
  (19, .iload_n 3, 1, 0, 0, 0, [], none),
  (20, .invokevirtual 384, 3, 0, 0, 0, [], some mX9_areAlike),
  (23, .ifCond .eq 7, 3, 0, 0, 0, [30], none),
  (26, .iconst 1, 1, 0, 0, 0, [], none),
  (27, .goto 4, 3, 0, 0, 0, [31], none),
  (30, .iconst 0, 1, 0, 0, 0, [], none),
  (31, .invokevirtual 255, 3, 0, 0, 0, [], some mX9_good),
  (34, .goto 8, 3, 0, 0, 0, [42], none),
  (37, .aload_n 0, 1, 0, 0, 0, [], none),
  (38, .iconst 1, 1, 0, 0, 0, [], none),
  (39, .invokevirtual 229, 3, 0, 0, 0, [], some mX9_refused),
  (42, .ireturn, 1, 0, 0, 0, [], none)]
set_option maxRecDepth 100000 in
theorem kX9_alike : ab_def_ok mX9_alike rX9_alike := ⟨ab_mok_of 1719 108 1717 1718 (by decide +kernel), [0, 0, 1192, 0, 0, 0, 0, 1704, 0, 0, 0, 0, 0, 0, 1720, 0, 0, 0, 0, 1509, 0, 0, 0, 1361, 0], by decide +kernel⟩
set_option maxRecDepth 100000 in
theorem vX9_alike_0 {x : ab_Cx} {d mc ms : Nat} {Post : Option ab_V → List ab_Ob → Prop} (hx : ab_At x mX9_alike d mc ms Post) (a1 a2 a3 : Int) (w0 : ab_Ob) (kc ks : Nat)
    (h : (∃ Q1 : Option ab_V → List ab_Ob → Prop, ab_Ct d 0 0 mX9_areSpans [ab_O 0, ab_I a1, ab_I a2, ab_I a3] [(ab_pf w0 0 0)] Q1 ∧ (∀ r2 : Int, Q1 (some (ab_I r2)) [(ab_pf w0 0 0)] → ((r2 = 0 → (∃ Q3 : Option ab_V → List ab_Ob → Prop, ab_Ct d 0 0 mX9_refused [ab_O 0, ab_I 1] [(ab_pf w0 0 0)] Q3 ∧ (∀ r4 : Int, ∀ v5 : ab_Ob, Q3 (some (ab_I r4)) [v5] → Post (some (ab_I r4)) [v5]))) ∧ (¬ r2 = 0 → (∃ Q6 : Option ab_V → List ab_Ob → Prop, ab_Ct d 0 0 mX9_areAlike [ab_O 0, ab_I a1, ab_I a2, ab_I a3] [(ab_pf w0 0 0)] Q6 ∧ (∀ r7 : Int, ∀ v8 : ab_Ob, Q6 (some (ab_I r7)) [v8] → ((r7 = 0 → (∃ Q9 : Option ab_V → List ab_Ob → Prop, ab_Ct d 0 0 mX9_good [ab_O 0, ab_I 0] [v8] Q9 ∧ (∀ r10 : Int, ∀ v11 : ab_Ob, Q9 (some (ab_I r10)) [v11] → Post (some (ab_I r10)) [v11]))) ∧ (¬ r7 = 0 → (∃ Q12 : Option ab_V → List ab_Ob → Prop, ab_Ct d 0 0 mX9_good [ab_O 0, ab_I 1] [v8] Q12 ∧ (∀ r13 : Int, ∀ v14 : ab_Ob, Q12 (some (ab_I r13)) [v14] → Post (some (ab_I r13)) [v14]))))))))))) :
    ab_J x 0 [some (ab_O 0), some (ab_I a1), some (ab_I a2), some (ab_I a3)] [] [w0] kc ks := ab_go hx kX9_alike.2 25 [] 0 h
def mX9_keep : ab_M := ((yX9_keep, cX9_keep, 2, (some .int)), ([9], [(0, 0)], [true], false, false, 0), (false, 9, 0))
def rX9_keep : List ab_R := [(0, .aload_n 0, 1, 0, 0, 0, [], none),
  (1, .iconst 0, 1, 0, 0, 0, [], none),
  (2, .putfield 100, 3, 9, 0, 0, [], none),
  (5, .aload_n 0, 1, 0, 0, 0, [], none),
  (6, .getfield 235, 3, 9, 14, 0, [], none),
  (9, .ifCond .ne 9, 3, 0, 0, 0, [18], none),
  (12, .aload_n 0, 1, 0, 0, 0, [], none),
  (13, .iconst 1, 1, 0, 0, 0, [], none),
  (14, .invokevirtual 229, 3, 0, 0, 0, [], some mX9_refused),
  (17, .ireturn, 1, 0, 0, 0, [], none),
  (18, .aload_n 0, 1, 0, 0, 0, [], none),
  (19, .iconst 1, 1, 0, 0, 0, [], none),
  (20, .putfield 239, 3, 9, 15, 0, [], none),
  (23, .aload_n 0, 1, 0, 0, 0, [], none),
  (24, .iconst 0, 1, 0, 0, 0, [], none),
  (25, .putfield 387, 3, 9, 51, 0, [], none),
  (28, .iconst 0, 1, 0, 0, 0, [], none),
  (29, .istore_n 1, 1, 0, 0, 0, [], none),
  (30, .iload_n 1, 1, 0, 0, 0, [], none),
  (31, .bipush 24, 2, 0, 0, 0, [], none),
  (33, .if_icmp .ge 21, 3, 0, 0, 0, [54], none),
  (36, .aload_n 0, 1, 0, 0, 0, [], none),
  (37, .getfield 97, 3, 9, 50, 0, [], none),
  (40, .iload_n 1, 1, 0, 0, 0, [], none),
  (41, .aload_n 0, 1, 0, 0, 0, [], none),
  (42, .getfield 58, 3, 9, 35, 0, [], none),
  (45, .iload_n 1, 1, 0, 0, 0, [], none),
  (46, .iaload, 1, 0, 0, 0, [], none),
  (47, .iastore, 1, 0, 0, 0, [], none),
  (48, .iinc 1 1, 3, 0, 0, 0, [], none),
  (51, .goto (-21), 3, 0, 0, 0, [30], none),
  (54, .iconst 0, 1, 0, 0, 0, [], none),
  (55, .istore_n 1, 1, 0, 0, 0, [], none),
  (56, .iload_n 1, 1, 0, 0, 0, [], none),
  (57, .aload_n 0, 1, 0, 0, 0, [], none),
  (58, .getfield 324, 3, 9, 40, 0, [], none),
  (61, .if_icmp .ge 103, 3, 0, 0, 0, [164], none),
  (64, .aload_n 0, 1, 0, 0, 0, [], none),
  (65, .iload_n 1, 1, 0, 0, 0, [], none),
  (66, .invokevirtual 331, 3, 0, 0, 0, [], some mX9_isJoining),
  (69, .ifCond .ne 6, 3, 0, 0, 0, [75], none),
  (72, .goto 86, 3, 0, 0, 0, [158], none),
  (75, .aload_n 0, 1, 0, 0, 0, [], none),
  (76, .getfield 82, 3, 9, 45, 0, [], none),
  (79, .aload_n 0, 1, 0, 0, 0, [], none),
  (80, .getfield 387, 3, 9, 51, 0, [], none),
  (83, .aload_n 0, 1, 0, 0, 0, [], none),
  (84, .getfield 46, 3, 9, 31, 0, [], none),
  (87, .iload_n 1, 1, 0, 0, 0, [], none),
  (88, .iaload, 1, 0, 0, 0, [], none),
  (89, .iastore, 1, 0, 0, 0, [], none),
  (90, .aload_n 0, 1, 0, 0, 0, [], none),
  (91, .getfield 85, 3, 9, 46, 0, [], none),
  (94, .aload_n 0, 1, 0, 0, 0, [], none),
  (95, .getfield 387, 3, 9, 51, 0, [], none),
  (98, .aload_n 0, 1, 0, 0, 0, [], none),
  (99, .getfield 49, 3, 9, 32, 0, [], none),
  (102, .iload_n 1, 1, 0, 0, 0, [], none),
  (103, .iaload, 1, 0, 0, 0, [], none),
  (104, .iastore, 1, 0, 0, 0, [], none),
  (105, .aload_n 0, 1, 0, 0, 0, [], none),
  (106, .getfield 88, 3, 9, 47, 0, [], none),
  (109, .aload_n 0, 1, 0, 0, 0, [], none),
  (110, .getfield 387, 3, 9, 51, 0, [], none),
  (113, .aload_n 0, 1, 0, 0, 0, [], none),
  (114, .iload_n 1, 1, 0, 0, 0, [], none),
  (115, .invokevirtual 334, 3, 0, 0, 0, [], some mX9_splitAt),
  (118, .iastore, 1, 0, 0, 0, [], none),
  (119, .aload_n 0, 1, 0, 0, 0, [], none),
  (120, .getfield 91, 3, 9, 48, 0, [], none),
  (123, .aload_n 0, 1, 0, 0, 0, [], none),
  (124, .getfield 387, 3, 9, 51, 0, [], none),
  (127, .aload_n 0, 1, 0, 0, 0, [], none),
  (128, .getfield 52, 3, 9, 33, 0, [], none),
  (131, .iload_n 1, 1, 0, 0, 0, [], none),
  (132, .iaload, 1, 0, 0, 0, [], none),
  (133, .iastore, 1, 0, 0, 0, [], none),
  (134, .aload_n 0, 1, 0, 0, 0, [], none),
  (135, .getfield 94, 3, 9, 49, 0, [], none),
  (138, .aload_n 0, 1, 0, 0, 0, [], none),
  (139, .getfield 387, 3, 9, 51, 0, [], none),
  (142, .aload_n 0, 1, 0, 0, 0, [], none),
  (143, .iload_n 1, 1, 0, 0, 0, [], none),
  (144, .invokevirtual 337, 3, 0, 0, 0, [], some mX9_underAt),
  (147, .iastore, 1, 0, 0, 0, [], none),
  (148, .aload_n 0, 1, 0, 0, 0, [], none),
  (149, .dup, 1, 0, 0, 0, [], none),
  (150, .getfield 387, 3, 9, 51, 0, [], none),
  (153, .iconst 1, 1, 0, 0, 0, [], none),
  (154, .iadd, 1, 0, 0, 0, [], none),
  (155, .putfield 387, 3, 9, 51, 0, [], none),
  (158, .iinc 1 1, 3, 0, 0, 0, [], none),
  (161, .goto (-105), 3, 0, 0, 0, [56], none),
  (164, .aload_n 0, 1, 0, 0, 0, [], none),
  (165, .aload_n 0, 1, 0, 0, 0, [], none),
  (166, .getfield 33, 3, 9, 27, 0, [], none),
  (169, .iconst 0, 1, 0, 0, 0, [], none),
  (170, .aload_n 0, 1, 0, 0, 0, [], none),
  (171, .getfield 246, 3, 9, 8, 0, [], none),
  (174, .iconst 1, 1, 0, 0, 0, [], none),
  (175, .isub, 1, 0, 0, 0, [], none),
  (176, .aload_n 0, 1, 0, 0, 0, [], none),
  (177, .iconst 0, 1, 0, 0, 0, [], none),
  (178, .aload_n 0, 1, 0, 0, 0, [], none),
  (179, .getfield 246, 3, 9, 8, 0, [], none),
  (182, .iconst 1, 1, 0, 0, 0, [], none),
  (183, .isub, 1, 0, 0, 0, [], none),
  (184, .invokevirtual 318, 3, 0, 0, 0, [], some mX9_headOf),
  (187, .invokestatic 289, 3, 0, 0, 0, [], some mX9_cube),
  (190, .iaload, 1, 0, 0, 0, [], none),
  (191, .invokevirtual 255, 3, 0, 0, 0, [], some mX9_good),
  (194, .ireturn, 1, 0, 0, 0, [], none)]
set_option maxRecDepth 100000 in
theorem kX9_keep : ab_def_ok mX9_keep rX9_keep := ⟨ab_mok_of 1727 108 1725 1726 (by decide +kernel), [0, 0, 1192, 0, 1206, 0, 0, 0, 1361, 0, 0, 0, 1207, 0, 0, 1243, 0, 0, 0, 0, 0, 0, 1242, 0, 0, 1227, 0, 0, 0, 0, 0, 0, 0, 0, 0, 1232, 0, 0, 0, 1584, 0, 0, 0, 1237, 0, 1243, 0, 1223, 0, 0, 0, 0, 1238, 0, 1243, 0, 1224, 0, 0, 0, 0, 1239, 0, 1243, 0, 0, 1592, 0, 0, 1240, 0, 1243, 0, 1225, 0, 0, 0, 0, 1241, 0, 1243, 0, 0, 1596, 0, 0, 0, 1243, 0, 0, 1243, 0, 0, 0, 0, 1219, 0, 0, 1200, 0, 0, 0, 0, 0, 1200, 0, 0, 1501, 1470, 0, 1509, 0], by decide +kernel⟩
set_option maxRecDepth 100000 in
theorem vX9_keep_0 {x : ab_Cx} {d mc ms : Nat} {Post : Option ab_V → List ab_Ob → Prop} (hx : ab_At x mX9_keep d mc ms Post) (w0 : ab_Ob) (kc ks : Nat)
    (h : ((¬ (w0.1 14) = 0 → (((1 : Int) = 0 ∨ (1 : Int) = 1) ∧ ab_J x 30 [some (ab_O 0), some (ab_I 0)] [] [(ab_pf (ab_pf (ab_pf w0 0 0) 15 1) 51 0)] kc ks)) ∧ ((w0.1 14) = 0 → (∃ Q1 : Option ab_V → List ab_Ob → Prop, ab_Ct d 0 0 mX9_refused [ab_O 0, ab_I 1] [(ab_pf w0 0 0)] Q1 ∧ (∀ r2 : Int, ∀ v3 : ab_Ob, Q1 (some (ab_I r2)) [v3] → Post (some (ab_I r2)) [v3]))))) :
    ab_J x 0 [some (ab_O 0), none] [] [w0] kc ks := ab_go hx kX9_keep.2 19 [(30, [true, true]), (56, [true, true]), (158, [true, true])] 0 h
set_option maxRecDepth 100000 in
theorem vX9_keep_30 {x : ab_Cx} {d mc ms : Nat} {Post : Option ab_V → List ab_Ob → Prop} (hx : ab_At x mX9_keep d mc ms Post) (l1 : Int) (w0 : ab_Ob) (kc ks : Nat)
    (h : ((24 ≤ l1 → ab_J x 56 [some (ab_O 0), some (ab_I 0)] [] [w0] kc ks) ∧ (¬ 24 ≤ l1 → ((0 ≤ l1 ∧ l1 < (w0.2 35).1) ∧ ((0 ≤ l1 ∧ l1 < (w0.2 50).1) ∧ ((-2147483648 ≤ l1 + 1 ∧ l1 + 1 ≤ 2147483647) ∧ ab_J x 30 [some (ab_O 0), some (ab_I (l1 + 1))] [] [(ab_pa w0 50 l1 ((w0.2 35).2 l1))] kc ks)))))) :
    ab_J x 30 [some (ab_O 0), some (ab_I l1)] [] [w0] kc ks := ab_go hx kX9_keep.2 18 [(30, [true, true]), (56, [true, true]), (158, [true, true])] 30 h
set_option maxRecDepth 100000 in
theorem vX9_keep_56 {x : ab_Cx} {d mc ms : Nat} {Post : Option ab_V → List ab_Ob → Prop} (hx : ab_At x mX9_keep d mc ms Post) (l1 : Int) (w0 : ab_Ob) (kc ks : Nat)
    (h : (((w0.1 40) ≤ l1 → ((-2147483648 ≤ (w0.1 8) - 1 ∧ (w0.1 8) - 1 ≤ 2147483647) ∧ ((-2147483648 ≤ (w0.1 8) - 1 ∧ (w0.1 8) - 1 ≤ 2147483647) ∧ (∃ Q1 : Option ab_V → List ab_Ob → Prop, ab_Ct d 0 0 mX9_headOf [ab_O 0, ab_I 0, ab_I ((w0.1 8) - 1)] [w0] Q1 ∧ (∀ r2 : Int, Q1 (some (ab_I r2)) [w0] → (∃ Q3 : Option ab_V → List ab_Ob → Prop, ab_Ct d 0 0 mX9_cube [ab_I 0, ab_I ((w0.1 8) - 1), ab_I r2] [] Q3 ∧ (∀ r4 : Int, Q3 (some (ab_I r4)) [] → ((0 ≤ r4 ∧ r4 < (w0.2 27).1) ∧ (∃ Q5 : Option ab_V → List ab_Ob → Prop, ab_Ct d 0 0 mX9_good [ab_O 0, ab_I ((w0.2 27).2 r4)] [w0] Q5 ∧ (∀ r6 : Int, ∀ v7 : ab_Ob, Q5 (some (ab_I r6)) [v7] → Post (some (ab_I r6)) [v7])))))))))) ∧ (¬ (w0.1 40) ≤ l1 → (∃ Q8 : Option ab_V → List ab_Ob → Prop, ab_Ct d 0 0 mX9_isJoining [ab_O 0, ab_I l1] [w0] Q8 ∧ (∀ r9 : Int, Q8 (some (ab_I r9)) [w0] → ((¬ r9 = 0 → ((0 ≤ l1 ∧ l1 < (w0.2 31).1) ∧ ((0 ≤ (w0.1 51) ∧ (w0.1 51) < (w0.2 45).1) ∧ ((0 ≤ l1 ∧ l1 < (w0.2 32).1) ∧ ((0 ≤ (w0.1 51) ∧ (w0.1 51) < (w0.2 46).1) ∧ (∃ Q10 : Option ab_V → List ab_Ob → Prop, ab_Ct d 0 0 mX9_splitAt [ab_O 0, ab_I l1] [(ab_pa (ab_pa w0 45 (w0.1 51) ((w0.2 31).2 l1)) 46 (w0.1 51) ((w0.2 32).2 l1))] Q10 ∧ (∀ r11 : Int, Q10 (some (ab_I r11)) [(ab_pa (ab_pa w0 45 (w0.1 51) ((w0.2 31).2 l1)) 46 (w0.1 51) ((w0.2 32).2 l1))] → ((0 ≤ (w0.1 51) ∧ (w0.1 51) < (w0.2 47).1) ∧ ((0 ≤ l1 ∧ l1 < (w0.2 33).1) ∧ ((0 ≤ (w0.1 51) ∧ (w0.1 51) < (w0.2 48).1) ∧ (∃ Q12 : Option ab_V → List ab_Ob → Prop, ab_Ct d 0 0 mX9_underAt [ab_O 0, ab_I l1] [(ab_pa (ab_pa (ab_pa (ab_pa w0 45 (w0.1 51) ((w0.2 31).2 l1)) 46 (w0.1 51) ((w0.2 32).2 l1)) 47 (w0.1 51) r11) 48 (w0.1 51) ((w0.2 33).2 l1))] Q12 ∧ (∀ r13 : Int, Q12 (some (ab_I r13)) [(ab_pa (ab_pa (ab_pa (ab_pa w0 45 (w0.1 51) ((w0.2 31).2 l1)) 46 (w0.1 51) ((w0.2 32).2 l1)) 47 (w0.1 51) r11) 48 (w0.1 51) ((w0.2 33).2 l1))] → ((0 ≤ (w0.1 51) ∧ (w0.1 51) < (w0.2 49).1) ∧ ((-2147483648 ≤ (w0.1 51) + 1 ∧ (w0.1 51) + 1 ≤ 2147483647) ∧ ab_J x 158 [some (ab_O 0), some (ab_I l1)] [] [(ab_pf (ab_pa (ab_pa (ab_pa (ab_pa (ab_pa w0 45 (w0.1 51) ((w0.2 31).2 l1)) 46 (w0.1 51) ((w0.2 32).2 l1)) 47 (w0.1 51) r11) 48 (w0.1 51) ((w0.2 33).2 l1)) 49 (w0.1 51) r13) 51 ((w0.1 51) + 1))] kc ks)))))))))))))) ∧ (r9 = 0 → ab_J x 158 [some (ab_O 0), some (ab_I l1)] [] [w0] kc ks))))))) :
    ab_J x 56 [some (ab_O 0), some (ab_I l1)] [] [w0] kc ks := ab_go hx kX9_keep.2 62 [(30, [true, true]), (56, [true, true]), (158, [true, true])] 56 h
set_option maxRecDepth 100000 in
theorem vX9_keep_158 {x : ab_Cx} {d mc ms : Nat} {Post : Option ab_V → List ab_Ob → Prop} (hx : ab_At x mX9_keep d mc ms Post) (l1 : Int) (w0 : ab_Ob) (kc ks : Nat)
    (h : ((-2147483648 ≤ l1 + 1 ∧ l1 + 1 ≤ 2147483647) ∧ ab_J x 56 [some (ab_O 0), some (ab_I (l1 + 1))] [] [w0] kc ks)) :
    ab_J x 158 [some (ab_O 0), some (ab_I l1)] [] [w0] kc ks := ab_go hx kX9_keep.2 7 [(30, [true, true]), (56, [true, true]), (158, [true, true])] 158 h
def mX9_keptAt : ab_M := ((yX9_keptAt, cX9_keptAt, 4, (some .int)), ([9], [(0, 0)], [false], false, false, 0), (false, 9, 2))
def rX9_keptAt : List ab_R := [(0, .iconst 0, 1, 0, 0, 0, [], none),
  (1, .istore_n 3, 1, 0, 0, 0, [], none),
  (2, .iload_n 3, 1, 0, 0, 0, [], none),
  (3, .aload_n 0, 1, 0, 0, 0, [], none),
  (4, .getfield 387, 3, 9, 51, 0, [], none),
  (7, .if_icmp .ge 31, 3, 0, 0, 0, [38], none),
  (10, .aload_n 0, 1, 0, 0, 0, [], none),
  (11, .getfield 82, 3, 9, 45, 0, [], none),
  (14, .iload_n 3, 1, 0, 0, 0, [], none),
  (15, .iaload, 1, 0, 0, 0, [], none),
  (16, .iload_n 1, 1, 0, 0, 0, [], none),
  (17, .if_icmp .ne 15, 3, 0, 0, 0, [32], none),
  (20, .aload_n 0, 1, 0, 0, 0, [], none),
  (21, .getfield 85, 3, 9, 46, 0, [], none),
  (24, .iload_n 3, 1, 0, 0, 0, [], none),
  (25, .iaload, 1, 0, 0, 0, [], none),
  (26, .iload_n 2, 1, 0, 0, 0, [], none),
  (27, .if_icmp .ne 5, 3, 0, 0, 0, [32], none),
  (30, .iload_n 3, 1, 0, 0, 0, [], none),
  (31, .ireturn, 1, 0, 0, 0, [], none),
  (32, .iinc 3 1, 3, 0, 0, 0, [], none),
  (35, .goto (-33), 3, 0, 0, 0, [2], none),
  (38, .iconst (-1), 1, 0, 0, 0, [], none),
  (39, .ireturn, 1, 0, 0, 0, [], none)]
set_option maxRecDepth 100000 in
theorem kX9_keptAt : ab_def_ok mX9_keptAt rX9_keptAt := ⟨ab_mok_of 1735 108 1734 95 (by decide +kernel), [0, 0, 0, 0, 1243, 0, 0, 1237, 0, 0, 0, 0, 0, 1238, 0, 0, 0, 0, 0, 0, 0, 0, 0, 0], by decide +kernel⟩
set_option maxRecDepth 100000 in
theorem vX9_keptAt_0 {x : ab_Cx} {d mc ms : Nat} {Post : Option ab_V → List ab_Ob → Prop} (hx : ab_At x mX9_keptAt d mc ms Post) (a1 a2 : Int) (w0 : ab_Ob) (kc ks : Nat)
    (h : ab_J x 2 [some (ab_O 0), some (ab_I a1), some (ab_I a2), some (ab_I 0)] [] [w0] kc ks) :
    ab_J x 0 [some (ab_O 0), some (ab_I a1), some (ab_I a2), none] [] [w0] kc ks := ab_go hx kX9_keptAt.2 7 [(2, [true, true, true, true])] 0 h
set_option maxRecDepth 100000 in
theorem vX9_keptAt_2 {x : ab_Cx} {d mc ms : Nat} {Post : Option ab_V → List ab_Ob → Prop} (hx : ab_At x mX9_keptAt d mc ms Post) (l1 l2 l3 : Int) (w0 : ab_Ob) (kc ks : Nat)
    (h : (((w0.1 51) ≤ l3 → Post (some (ab_I (-1))) [w0]) ∧ (¬ (w0.1 51) ≤ l3 → ((0 ≤ l3 ∧ l3 < (w0.2 45).1) ∧ ((¬ ((w0.2 45).2 l3) = l1 → ((-2147483648 ≤ l3 + 1 ∧ l3 + 1 ≤ 2147483647) ∧ ab_J x 2 [some (ab_O 0), some (ab_I l1), some (ab_I l2), some (ab_I (l3 + 1))] [] [w0] kc ks)) ∧ (((w0.2 45).2 l3) = l1 → ((0 ≤ l3 ∧ l3 < (w0.2 46).1) ∧ ((¬ ((w0.2 46).2 l3) = l2 → ((-2147483648 ≤ l3 + 1 ∧ l3 + 1 ≤ 2147483647) ∧ ab_J x 2 [some (ab_O 0), some (ab_I l1), some (ab_I l2), some (ab_I (l3 + 1))] [] [w0] kc ks)) ∧ (((w0.2 46).2 l3) = l2 → Post (some (ab_I l3)) [w0]))))))))) :
    ab_J x 2 [some (ab_O 0), some (ab_I l1), some (ab_I l2), some (ab_I l3)] [] [w0] kc ks := ab_go hx kX9_keptAt.2 23 [(2, [true, true, true, true])] 2 h
def mX9_unlike : ab_M := ((yX9_unlike, cX9_unlike, 5, (some .int)), ([9], [(0, 0)], [true], false, false, 0), (false, 9, 1))
def rX9_unlike : List ab_R := [(0, .aload_n 0, 1, 0, 0, 0, [], none),
  (1, .iconst 0, 1, 0, 0, 0, [], none),
  (2, .putfield 100, 3, 9, 0, 0, [], none),
  (5, .aload_n 0, 1, 0, 0, 0, [], none),
  (6, .getfield 235, 3, 9, 14, 0, [], none),
  (9, .ifCond .eq 19, 3, 0, 0, 0, [28], none),
  (12, .aload_n 0, 1, 0, 0, 0, [], none),
  (13, .getfield 239, 3, 9, 15, 0, [], none),
  (16, .ifCond .eq 12, 3, 0, 0, 0, [28], none),
  (19, .iload_n 1, 1, 0, 0, 0, [], none),
  (20, .iconst 0, 1, 0, 0, 0, [], none),
  (21, .iconst 2, 1, 0, 0, 0, [], none),
  (22, .invokestatic 125, 3, 0, 0, 0, [], some mX9_in),
  (25, .ifCond .ne 9, 3, 0, 0, 0, [34], none),
  (28, .aload_n 0, 1, 0, 0, 0, [], none),
  (29, .iconst 1, 1, 0, 0, 0, [], none),
  (30, .invokevirtual 229, 3, 0, 0, 0, [], some mX9_refused),
  (33, .ireturn, 1, 0, 0, 0, [], none),
  (34, .iconst 0, 1, 0, 0, 0, [], none),
  (35, .istore_n 2, 1, 0, 0, 0, [], none),
  (36, .iconst 0, 1, 0, 0, 0, [], none),
  (37, .istore_n 3, 1, 0, 0, 0, [], none),
  (38, .iload_n 1, 1, 0, 0, 0, [], none),
  (39, .iconst 2, 1, 0, 0, 0, [], none),
  (40, .if_icmp .ge 91, 3, 0, 0, 0, [131], none),
  (43, .iload_n 3, 1, 0, 0, 0, [], none),
  (44, .aload_n 0, 1, 0, 0, 0, [], none),
  (45, .getfield 324, 3, 9, 40, 0, [], none),
  (48, .if_icmp .ge 83, 3, 0, 0, 0, [131], none),
  (51, .aload_n 0, 1, 0, 0, 0, [], none),
  (52, .iload_n 3, 1, 0, 0, 0, [], none),
  (53, .invokevirtual 331, 3, 0, 0, 0, [], some mX9_isJoining),
  (56, .ifCond .ne 6, 3, 0, 0, 0, [62], none),
  (59, .goto 66, 3, 0, 0, 0, [125], none),
  (62, .aload_n 0, 1, 0, 0, 0, [], none),
  (63, .aload_n 0, 1, 0, 0, 0, [], none),
  (64, .getfield 46, 3, 9, 31, 0, [], none),
  (67, .iload_n 3, 1, 0, 0, 0, [], none),
  (68, .iaload, 1, 0, 0, 0, [], none),
  (69, .aload_n 0, 1, 0, 0, 0, [], none),
  (70, .getfield 49, 3, 9, 32, 0, [], none),
  (73, .iload_n 3, 1, 0, 0, 0, [], none),
  (74, .iaload, 1, 0, 0, 0, [], none),
  (75, .invokevirtual 390, 3, 0, 0, 0, [], some mX9_keptAt),
  (78, .istore 4, 2, 0, 0, 0, [], none),
  (80, .iload_n 2, 1, 0, 0, 0, [], none),
  (81, .iload_n 1, 1, 0, 0, 0, [], none),
  (82, .ifCond .ne 9, 3, 0, 0, 0, [91], none),
  (85, .iload 4, 2, 0, 0, 0, [], none),
  (87, .iconst (-1), 1, 0, 0, 0, [], none),
  (88, .if_icmp .eq 30, 3, 0, 0, 0, [118], none),
  (91, .iload_n 1, 1, 0, 0, 0, [], none),
  (92, .iconst 1, 1, 0, 0, 0, [], none),
  (93, .if_icmp .ne 29, 3, 0, 0, 0, [122], none),
  (96, .iload 4, 2, 0, 0, 0, [], none),
  (98, .iconst (-1), 1, 0, 0, 0, [], none),
  (99, .if_icmp .eq 23, 3, 0, 0, 0, [122], none),
  (102, .aload_n 0, 1, 0, 0, 0, [], none),
  (103, .getfield 91, 3, 9, 48, 0, [], none),
  (106, .iload 4, 2, 0, 0, 0, [], none),
  (108, .iaload, 1, 0, 0, 0, [], none),
  (109, .aload_n 0, 1, 0, 0, 0, [], none),
  (110, .getfield 52, 3, 9, 33, 0, [], none),
  (113, .iload_n 3, 1, 0, 0, 0, [], none),
  (114, .iaload, 1, 0, 0, 0, [], none),
  (115, .if_icmp .eq 7, 3, 0, 0, 0, [122], none),
  (118, .iconst 1, 1, 0, 0, 0, [], none),
  (119, .goto 4, 3, 0, 0, 0, [123], none),
  (122, .iconst 0, 1, 0, 0, 0, [], none),
  (123, .iadd, 1, 0, 0, 0, [], none),
  (124, .istore_n 2, 1, 0, 0, 0, [], none),
  (125, .iinc 3 1, 3, 0, 0, 0, [], none),
  (128, .goto (-90), 3, 0, 0, 0, [38], none),
  (131, .iconst 0, 1, 0, 0, 0, [], none),
  (132, .istore_n 3, 1, 0, 0, 0, [], none),
  (133, .iload_n 1, 1, 0, 0, 0, [], none),
  (134, .iconst 2, 1, 0, 0, 0, [], none),
  (135, .if_icmp .ne 40, 3, 0, 0, 0, [175], none),
  (138, .iload_n 3, 1, 0, 0, 0, [], none),
  (139, .aload_n 0, 1, 0, 0, 0, [], none),
  (140, .getfield 246, 3, 9, 8, 0, [], none),
  (143, .if_icmp .ge 32, 3, 0, 0, 0, [175], none),
  (146, .iload_n 2, 1, 0, 0, 0, [], none),
  (147, .aload_n 0, 1, 0, 0, 0, [], none),
  (148, .getfield 97, 3, 9, 50, 0, [], none),
  (151, .iload_n 3, 1, 0, 0, 0, [], none),
  (152, .iaload, 1, 0, 0, 0, [], none),
  (153, .aload_n 0, 1, 0, 0, 0, [], none),
  (154, .getfield 58, 3, 9, 35, 0, [], none),
  (157, .iload_n 3, 1, 0, 0, 0, [], none),
  (158, .iaload, 1, 0, 0, 0, [], none),
  (159, .if_icmp .eq 7, 3, 0, 0, 0, [166], none),
  (162, .iconst 1, 1, 0, 0, 0, [], none),
  (163, .goto 4, 3, 0, 0, 0, [167], none),
  (166, .iconst 0, 1, 0, 0, 0, [], none),
  (167, .iadd, 1, 0, 0, 0, [], none),
  (168, .istore_n 2, 1, 0, 0, 0, [], none),
  (169, .iinc 3 1, 3, 0, 0, 0, [], none),
  (172, .goto (-39), 3, 0, 0, 0, [133], none),
  (175, .aload_n 0, 1, 0, 0, 0, [], none),
  (176, .iload_n 2, 1, 0, 0, 0, [], none),
  (177, .invokevirtual 255, 3, 0, 0, 0, [], some mX9_good),
  (180, .ireturn, 1, 0, 0, 0, [], none)]
set_option maxRecDepth 100000 in
theorem kX9_unlike : ab_def_ok mX9_unlike rX9_unlike := ⟨ab_mok_of 1731 108 1729 1730 (by decide +kernel), [0, 0, 1192, 0, 1206, 0, 0, 1207, 0, 0, 0, 0, 1377, 0, 0, 0, 1361, 0, 0, 0, 0, 0, 0, 0, 0, 0, 0, 1232, 0, 0, 0, 1584, 0, 0, 0, 0, 1223, 0, 0, 0, 1224, 0, 0, 1732, 0, 0, 0, 0, 0, 0, 0, 0, 0, 0, 0, 0, 0, 0, 1240, 0, 0, 0, 1225, 0, 0, 0, 0, 0, 0, 0, 0, 0, 0, 0, 0, 0, 0, 0, 0, 0, 1200, 0, 0, 0, 1242, 0, 0, 0, 1227, 0, 0, 0, 0, 0, 0, 0, 0, 0, 0, 0, 0, 1509, 0], by decide +kernel⟩
set_option maxRecDepth 100000 in
theorem vX9_unlike_0 {x : ab_Cx} {d mc ms : Nat} {Post : Option ab_V → List ab_Ob → Prop} (hx : ab_At x mX9_unlike d mc ms Post) (a1 : Int) (w0 : ab_Ob) (kc ks : Nat)
    (h : (((w0.1 14) = 0 → ab_J x 28 [some (ab_O 0), none, none, none, none] [] [(ab_pf w0 0 0)] kc ks) ∧ (¬ (w0.1 14) = 0 → (((w0.1 15) = 0 → ab_J x 28 [some (ab_O 0), none, none, none, none] [] [(ab_pf w0 0 0)] kc ks) ∧ (¬ (w0.1 15) = 0 → (∃ Q1 : Option ab_V → List ab_Ob → Prop, ab_Ct d 0 0 mX9_in [ab_I a1, ab_I 0, ab_I 2] [] Q1 ∧ (∀ r2 : Int, Q1 (some (ab_I r2)) [] → ((¬ r2 = 0 → ab_J x 38 [some (ab_O 0), some (ab_I a1), some (ab_I 0), some (ab_I 0), none] [] [(ab_pf w0 0 0)] kc ks) ∧ (r2 = 0 → ab_J x 28 [some (ab_O 0), none, none, none, none] [] [(ab_pf w0 0 0)] kc ks))))))))) :
    ab_J x 0 [some (ab_O 0), some (ab_I a1), none, none, none] [] [w0] kc ks := ab_go hx kX9_unlike.2 23 [(28, [true, false, false, false, false]), (38, [true, true, true, true, false]), (91, [true, true, false, true, true]), (118, [true, true, false, true, false]), (122, [true, true, false, true, false]), (123, [true, true, false, true, false]), (125, [true, true, true, true, false]), (131, [true, true, true, false, false]), (133, [true, true, true, true, false]), (167, [true, true, false, true, false]), (175, [true, false, true, false, false])] 0 h
set_option maxRecDepth 100000 in
theorem vX9_unlike_28 {x : ab_Cx} {d mc ms : Nat} {Post : Option ab_V → List ab_Ob → Prop} (hx : ab_At x mX9_unlike d mc ms Post) (w0 : ab_Ob) (kc ks : Nat)
    (h : (∃ Q1 : Option ab_V → List ab_Ob → Prop, ab_Ct d 0 0 mX9_refused [ab_O 0, ab_I 1] [w0] Q1 ∧ (∀ r2 : Int, ∀ v3 : ab_Ob, Q1 (some (ab_I r2)) [v3] → Post (some (ab_I r2)) [v3]))) :
    ab_J x 28 [some (ab_O 0), none, none, none, none] [] [w0] kc ks := ab_go hx kX9_unlike.2 8 [(28, [true, false, false, false, false]), (38, [true, true, true, true, false]), (91, [true, true, false, true, true]), (118, [true, true, false, true, false]), (122, [true, true, false, true, false]), (123, [true, true, false, true, false]), (125, [true, true, true, true, false]), (131, [true, true, true, false, false]), (133, [true, true, true, true, false]), (167, [true, true, false, true, false]), (175, [true, false, true, false, false])] 28 h
set_option maxRecDepth 100000 in
theorem vX9_unlike_38 {x : ab_Cx} {d mc ms : Nat} {Post : Option ab_V → List ab_Ob → Prop} (hx : ab_At x mX9_unlike d mc ms Post) (l1 l2 l3 : Int) (w0 : ab_Ob) (kc ks : Nat)
    (h : ((2 ≤ l1 → ab_J x 131 [some (ab_O 0), some (ab_I l1), some (ab_I l2), none, none] [] [w0] kc ks) ∧ (¬ 2 ≤ l1 → (((w0.1 40) ≤ l3 → ab_J x 131 [some (ab_O 0), some (ab_I l1), some (ab_I l2), none, none] [] [w0] kc ks) ∧ (¬ (w0.1 40) ≤ l3 → (∃ Q1 : Option ab_V → List ab_Ob → Prop, ab_Ct d 0 0 mX9_isJoining [ab_O 0, ab_I l3] [w0] Q1 ∧ (∀ r2 : Int, Q1 (some (ab_I r2)) [w0] → ((¬ r2 = 0 → ((0 ≤ l3 ∧ l3 < (w0.2 31).1) ∧ ((0 ≤ l3 ∧ l3 < (w0.2 32).1) ∧ (∃ Q3 : Option ab_V → List ab_Ob → Prop, ab_Ct d 0 0 mX9_keptAt [ab_O 0, ab_I ((w0.2 31).2 l3), ab_I ((w0.2 32).2 l3)] [w0] Q3 ∧ (∀ r4 : Int, Q3 (some (ab_I r4)) [w0] → ((¬ l1 = 0 → ab_J x 91 [some (ab_O 0), some (ab_I l1), none, some (ab_I l3), some (ab_I r4)] [ab_I l2] [w0] kc ks) ∧ (l1 = 0 → ((r4 = (-1) → ab_J x 118 [some (ab_O 0), some (ab_I l1), none, some (ab_I l3), none] [ab_I l2] [w0] kc ks) ∧ (¬ r4 = (-1) → ab_J x 91 [some (ab_O 0), some (ab_I l1), none, some (ab_I l3), some (ab_I r4)] [ab_I l2] [w0] kc ks))))))))) ∧ (r2 = 0 → ab_J x 125 [some (ab_O 0), some (ab_I l1), some (ab_I l2), some (ab_I l3), none] [] [w0] kc ks))))))))) :
    ab_J x 38 [some (ab_O 0), some (ab_I l1), some (ab_I l2), some (ab_I l3), none] [] [w0] kc ks := ab_go hx kX9_unlike.2 33 [(28, [true, false, false, false, false]), (38, [true, true, true, true, false]), (91, [true, true, false, true, true]), (118, [true, true, false, true, false]), (122, [true, true, false, true, false]), (123, [true, true, false, true, false]), (125, [true, true, true, true, false]), (131, [true, true, true, false, false]), (133, [true, true, true, true, false]), (167, [true, true, false, true, false]), (175, [true, false, true, false, false])] 38 h
set_option maxRecDepth 100000 in
theorem vX9_unlike_131 {x : ab_Cx} {d mc ms : Nat} {Post : Option ab_V → List ab_Ob → Prop} (hx : ab_At x mX9_unlike d mc ms Post) (l1 l2 : Int) (w0 : ab_Ob) (kc ks : Nat)
    (h : ab_J x 133 [some (ab_O 0), some (ab_I l1), some (ab_I l2), some (ab_I 0), none] [] [w0] kc ks) :
    ab_J x 131 [some (ab_O 0), some (ab_I l1), some (ab_I l2), none, none] [] [w0] kc ks := ab_go hx kX9_unlike.2 7 [(28, [true, false, false, false, false]), (38, [true, true, true, true, false]), (91, [true, true, false, true, true]), (118, [true, true, false, true, false]), (122, [true, true, false, true, false]), (123, [true, true, false, true, false]), (125, [true, true, true, true, false]), (131, [true, true, true, false, false]), (133, [true, true, true, true, false]), (167, [true, true, false, true, false]), (175, [true, false, true, false, false])] 131 h
set_option maxRecDepth 100000 in
theorem vX9_unlike_91 {x : ab_Cx} {d mc ms : Nat} {Post : Option ab_V → List ab_Ob → Prop} (hx : ab_At x mX9_unlike d mc ms Post) (l1 l3 l4 t0 : Int) (w0 : ab_Ob) (kc ks : Nat)
    (h : ((¬ l1 = 1 → ab_J x 122 [some (ab_O 0), some (ab_I l1), none, some (ab_I l3), none] [ab_I t0] [w0] kc ks) ∧ (l1 = 1 → ((l4 = (-1) → ab_J x 122 [some (ab_O 0), some (ab_I l1), none, some (ab_I l3), none] [ab_I t0] [w0] kc ks) ∧ (¬ l4 = (-1) → ((0 ≤ l4 ∧ l4 < (w0.2 48).1) ∧ ((0 ≤ l3 ∧ l3 < (w0.2 33).1) ∧ ((((w0.2 48).2 l4) = ((w0.2 33).2 l3) → ab_J x 122 [some (ab_O 0), some (ab_I l1), none, some (ab_I l3), none] [ab_I t0] [w0] kc ks) ∧ (¬ ((w0.2 48).2 l4) = ((w0.2 33).2 l3) → ab_J x 118 [some (ab_O 0), some (ab_I l1), none, some (ab_I l3), none] [ab_I t0] [w0] kc ks))))))))) :
    ab_J x 91 [some (ab_O 0), some (ab_I l1), none, some (ab_I l3), some (ab_I l4)] [ab_I t0] [w0] kc ks := ab_go hx kX9_unlike.2 20 [(28, [true, false, false, false, false]), (38, [true, true, true, true, false]), (91, [true, true, false, true, true]), (118, [true, true, false, true, false]), (122, [true, true, false, true, false]), (123, [true, true, false, true, false]), (125, [true, true, true, true, false]), (131, [true, true, true, false, false]), (133, [true, true, true, true, false]), (167, [true, true, false, true, false]), (175, [true, false, true, false, false])] 91 h
set_option maxRecDepth 100000 in
theorem vX9_unlike_118 {x : ab_Cx} {d mc ms : Nat} {Post : Option ab_V → List ab_Ob → Prop} (hx : ab_At x mX9_unlike d mc ms Post) (l1 l3 t0 : Int) (w0 : ab_Ob) (kc ks : Nat)
    (h : ab_J x 123 [some (ab_O 0), some (ab_I l1), none, some (ab_I l3), none] [ab_I 1, ab_I t0] [w0] kc ks) :
    ab_J x 118 [some (ab_O 0), some (ab_I l1), none, some (ab_I l3), none] [ab_I t0] [w0] kc ks := ab_go hx kX9_unlike.2 7 [(28, [true, false, false, false, false]), (38, [true, true, true, true, false]), (91, [true, true, false, true, true]), (118, [true, true, false, true, false]), (122, [true, true, false, true, false]), (123, [true, true, false, true, false]), (125, [true, true, true, true, false]), (131, [true, true, true, false, false]), (133, [true, true, true, true, false]), (167, [true, true, false, true, false]), (175, [true, false, true, false, false])] 118 h
set_option maxRecDepth 100000 in
theorem vX9_unlike_125 {x : ab_Cx} {d mc ms : Nat} {Post : Option ab_V → List ab_Ob → Prop} (hx : ab_At x mX9_unlike d mc ms Post) (l1 l2 l3 : Int) (w0 : ab_Ob) (kc ks : Nat)
    (h : ((-2147483648 ≤ l3 + 1 ∧ l3 + 1 ≤ 2147483647) ∧ ab_J x 38 [some (ab_O 0), some (ab_I l1), some (ab_I l2), some (ab_I (l3 + 1)), none] [] [w0] kc ks)) :
    ab_J x 125 [some (ab_O 0), some (ab_I l1), some (ab_I l2), some (ab_I l3), none] [] [w0] kc ks := ab_go hx kX9_unlike.2 7 [(28, [true, false, false, false, false]), (38, [true, true, true, true, false]), (91, [true, true, false, true, true]), (118, [true, true, false, true, false]), (122, [true, true, false, true, false]), (123, [true, true, false, true, false]), (125, [true, true, true, true, false]), (131, [true, true, true, false, false]), (133, [true, true, true, true, false]), (167, [true, true, false, true, false]), (175, [true, false, true, false, false])] 125 h
set_option maxRecDepth 100000 in
theorem vX9_unlike_133 {x : ab_Cx} {d mc ms : Nat} {Post : Option ab_V → List ab_Ob → Prop} (hx : ab_At x mX9_unlike d mc ms Post) (l1 l2 l3 : Int) (w0 : ab_Ob) (kc ks : Nat)
    (h : ((¬ l1 = 2 → ab_J x 175 [some (ab_O 0), none, some (ab_I l2), none, none] [] [w0] kc ks) ∧ (l1 = 2 → (((w0.1 8) ≤ l3 → ab_J x 175 [some (ab_O 0), none, some (ab_I l2), none, none] [] [w0] kc ks) ∧ (¬ (w0.1 8) ≤ l3 → ((0 ≤ l3 ∧ l3 < (w0.2 50).1) ∧ ((0 ≤ l3 ∧ l3 < (w0.2 35).1) ∧ ((((w0.2 50).2 l3) = ((w0.2 35).2 l3) → ab_J x 167 [some (ab_O 0), some (ab_I l1), none, some (ab_I l3), none] [ab_I 0, ab_I l2] [w0] kc ks) ∧ (¬ ((w0.2 50).2 l3) = ((w0.2 35).2 l3) → ab_J x 167 [some (ab_O 0), some (ab_I l1), none, some (ab_I l3), none] [ab_I 1, ab_I l2] [w0] kc ks))))))))) :
    ab_J x 133 [some (ab_O 0), some (ab_I l1), some (ab_I l2), some (ab_I l3), none] [] [w0] kc ks := ab_go hx kX9_unlike.2 24 [(28, [true, false, false, false, false]), (38, [true, true, true, true, false]), (91, [true, true, false, true, true]), (118, [true, true, false, true, false]), (122, [true, true, false, true, false]), (123, [true, true, false, true, false]), (125, [true, true, true, true, false]), (131, [true, true, true, false, false]), (133, [true, true, true, true, false]), (167, [true, true, false, true, false]), (175, [true, false, true, false, false])] 133 h
set_option maxRecDepth 100000 in
theorem vX9_unlike_122 {x : ab_Cx} {d mc ms : Nat} {Post : Option ab_V → List ab_Ob → Prop} (hx : ab_At x mX9_unlike d mc ms Post) (l1 l3 t0 : Int) (w0 : ab_Ob) (kc ks : Nat)
    (h : ab_J x 123 [some (ab_O 0), some (ab_I l1), none, some (ab_I l3), none] [ab_I 0, ab_I t0] [w0] kc ks) :
    ab_J x 122 [some (ab_O 0), some (ab_I l1), none, some (ab_I l3), none] [ab_I t0] [w0] kc ks := ab_go hx kX9_unlike.2 6 [(28, [true, false, false, false, false]), (38, [true, true, true, true, false]), (91, [true, true, false, true, true]), (118, [true, true, false, true, false]), (122, [true, true, false, true, false]), (123, [true, true, false, true, false]), (125, [true, true, true, true, false]), (131, [true, true, true, false, false]), (133, [true, true, true, true, false]), (167, [true, true, false, true, false]), (175, [true, false, true, false, false])] 122 h
set_option maxRecDepth 100000 in
theorem vX9_unlike_123 {x : ab_Cx} {d mc ms : Nat} {Post : Option ab_V → List ab_Ob → Prop} (hx : ab_At x mX9_unlike d mc ms Post) (l1 l3 t0 t1 : Int) (w0 : ab_Ob) (kc ks : Nat)
    (h : ((-2147483648 ≤ t1 + t0 ∧ t1 + t0 ≤ 2147483647) ∧ ab_J x 125 [some (ab_O 0), some (ab_I l1), some (ab_I (t1 + t0)), some (ab_I l3), none] [] [w0] kc ks)) :
    ab_J x 123 [some (ab_O 0), some (ab_I l1), none, some (ab_I l3), none] [ab_I t0, ab_I t1] [w0] kc ks := ab_go hx kX9_unlike.2 7 [(28, [true, false, false, false, false]), (38, [true, true, true, true, false]), (91, [true, true, false, true, true]), (118, [true, true, false, true, false]), (122, [true, true, false, true, false]), (123, [true, true, false, true, false]), (125, [true, true, true, true, false]), (131, [true, true, true, false, false]), (133, [true, true, true, true, false]), (167, [true, true, false, true, false]), (175, [true, false, true, false, false])] 123 h
set_option maxRecDepth 100000 in
theorem vX9_unlike_175 {x : ab_Cx} {d mc ms : Nat} {Post : Option ab_V → List ab_Ob → Prop} (hx : ab_At x mX9_unlike d mc ms Post) (l2 : Int) (w0 : ab_Ob) (kc ks : Nat)
    (h : (∃ Q1 : Option ab_V → List ab_Ob → Prop, ab_Ct d 0 0 mX9_good [ab_O 0, ab_I l2] [w0] Q1 ∧ (∀ r2 : Int, ∀ v3 : ab_Ob, Q1 (some (ab_I r2)) [v3] → Post (some (ab_I r2)) [v3]))) :
    ab_J x 175 [some (ab_O 0), none, some (ab_I l2), none, none] [] [w0] kc ks := ab_go hx kX9_unlike.2 8 [(28, [true, false, false, false, false]), (38, [true, true, true, true, false]), (91, [true, true, false, true, true]), (118, [true, true, false, true, false]), (122, [true, true, false, true, false]), (123, [true, true, false, true, false]), (125, [true, true, true, true, false]), (131, [true, true, true, false, false]), (133, [true, true, true, true, false]), (167, [true, true, false, true, false]), (175, [true, false, true, false, false])] 175 h
set_option maxRecDepth 100000 in
theorem vX9_unlike_167 {x : ab_Cx} {d mc ms : Nat} {Post : Option ab_V → List ab_Ob → Prop} (hx : ab_At x mX9_unlike d mc ms Post) (l1 l3 t0 t1 : Int) (w0 : ab_Ob) (kc ks : Nat)
    (h : ((-2147483648 ≤ t1 + t0 ∧ t1 + t0 ≤ 2147483647) ∧ ((-2147483648 ≤ l3 + 1 ∧ l3 + 1 ≤ 2147483647) ∧ ab_J x 133 [some (ab_O 0), some (ab_I l1), some (ab_I (t1 + t0)), some (ab_I (l3 + 1)), none] [] [w0] kc ks))) :
    ab_J x 167 [some (ab_O 0), some (ab_I l1), none, some (ab_I l3), none] [ab_I t0, ab_I t1] [w0] kc ks := ab_go hx kX9_unlike.2 9 [(28, [true, false, false, false, false]), (38, [true, true, true, true, false]), (91, [true, true, false, true, true]), (118, [true, true, false, true, false]), (122, [true, true, false, true, false]), (123, [true, true, false, true, false]), (125, [true, true, true, true, false]), (131, [true, true, true, false, false]), (133, [true, true, true, true, false]), (167, [true, true, false, true, false]), (175, [true, false, true, false, false])] 167 h
def mX9_keptBreaks : ab_M := ((yX9_keptBreaks, cX9_keptBreaks, 3, (some .int)), ([9], [(0, 0)], [true], false, false, 0), (false, 9, 0))
def rX9_keptBreaks : List ab_R := [(0, .aload_n 0, 1, 0, 0, 0, [], none),
  (1, .iconst 0, 1, 0, 0, 0, [], none),
  (2, .putfield 100, 3, 9, 0, 0, [], none),
  (5, .aload_n 0, 1, 0, 0, 0, [], none),
  (6, .getfield 235, 3, 9, 14, 0, [], none),
  (9, .ifCond .eq 10, 3, 0, 0, 0, [19], none),
  (12, .aload_n 0, 1, 0, 0, 0, [], none),
  (13, .getfield 239, 3, 9, 15, 0, [], none),
  (16, .ifCond .ne 9, 3, 0, 0, 0, [25], none),
  (19, .aload_n 0, 1, 0, 0, 0, [], none),
  (20, .iconst 1, 1, 0, 0, 0, [], none),
  (21, .invokevirtual 229, 3, 0, 0, 0, [], some mX9_refused),
  (24, .ireturn, 1, 0, 0, 0, [], none),
  (25, .iconst 0, 1, 0, 0, 0, [], none),
  (26, .istore_n 1, 1, 0, 0, 0, [], none),
  (27, .iconst 0, 1, 0, 0, 0, [], none),
  (28, .istore_n 2, 1, 0, 0, 0, [], none),
  (29, .iload_n 2, 1, 0, 0, 0, [], none),
  (30, .aload_n 0, 1, 0, 0, 0, [], none),
  (31, .getfield 387, 3, 9, 51, 0, [], none),
  (34, .if_icmp .ge 56, 3, 0, 0, 0, [90], none),
  (37, .iload_n 1, 1, 0, 0, 0, [], none),
  (38, .aload_n 0, 1, 0, 0, 0, [], none),
  (39, .aload_n 0, 1, 0, 0, 0, [], none),
  (40, .getfield 91, 3, 9, 48, 0, [], none),
  (43, .iload_n 2, 1, 0, 0, 0, [], none),
  (44, .iaload, 1, 0, 0, 0, [], none),
  (45, .aload_n 0, 1, 0, 0, 0, [], none),
  (46, .getfield 94, 3, 9, 49, 0, [], none),
  (49, .iload_n 2, 1, 0, 0, 0, [], none),
  (50, .iaload, 1, 0, 0, 0, [], none),
  (51, .aload_n 0, 1, 0, 0, 0, [], none),
  (52, .getfield 88, 3, 9, 47, 0, [], none),
  (55, .iload_n 2, 1, 0, 0, 0, [], none),
  (56, .iaload, 1, 0, 0, 0, [], none),
  (57, .aload_n 0, 1, 0, 0, 0, [], none),
  (58, .getfield 82, 3, 9, 45, 0, [], none),
  (61, .iload_n 2, 1, 0, 0, 0, [], none),
  (62, .iaload, 1, 0, 0, 0, [], none),
  (63, .isub, 1, 0, 0, 0, [], none),
  (64, .iconst 1, 1, 0, 0, 0, [], none),
  (65, .iadd, 1, 0, 0, 0, [], none),
  (66, .aload_n 0, 1, 0, 0, 0, [], none),
  (67, .getfield 85, 3, 9, 46, 0, [], none),
  (70, .iload_n 2, 1, 0, 0, 0, [], none),
  (71, .iaload, 1, 0, 0, 0, [], none),
  (72, .aload_n 0, 1, 0, 0, 0, [], none),
  (73, .getfield 88, 3, 9, 47, 0, [], none),
  (76, .iload_n 2, 1, 0, 0, 0, [], none),
  (77, .iaload, 1, 0, 0, 0, [], none),
  (78, .isub, 1, 0, 0, 0, [], none),
  (79, .invokevirtual 298, 3, 0, 0, 0, [], some mX9_brokenAll),
  (82, .iadd, 1, 0, 0, 0, [], none),
  (83, .istore_n 1, 1, 0, 0, 0, [], none),
  (84, .iinc 2 1, 3, 0, 0, 0, [], none),
  (87, .goto (-58), 3, 0, 0, 0, [29], none),
  (90, .aload_n 0, 1, 0, 0, 0, [], none),
  (91, .iload_n 1, 1, 0, 0, 0, [], none),
  (92, .invokevirtual 255, 3, 0, 0, 0, [], some mX9_good),
  (95, .ireturn, 1, 0, 0, 0, [], none)]
set_option maxRecDepth 100000 in
theorem kX9_keptBreaks : ab_def_ok mX9_keptBreaks rX9_keptBreaks := ⟨ab_mok_of 1739 108 1737 1738 (by decide +kernel), [0, 0, 1192, 0, 1206, 0, 0, 1207, 0, 0, 0, 1361, 0, 0, 0, 0, 0, 0, 0, 1243, 0, 0, 0, 0, 1240, 0, 0, 0, 1241, 0, 0, 0, 1239, 0, 0, 0, 1237, 0, 0, 0, 0, 0, 0, 1238, 0, 0, 0, 1239, 0, 0, 0, 1482, 0, 0, 0, 0, 0, 0, 1509, 0], by decide +kernel⟩
set_option maxRecDepth 100000 in
theorem vX9_keptBreaks_0 {x : ab_Cx} {d mc ms : Nat} {Post : Option ab_V → List ab_Ob → Prop} (hx : ab_At x mX9_keptBreaks d mc ms Post) (w0 : ab_Ob) (kc ks : Nat)
    (h : (((w0.1 14) = 0 → (∃ Q1 : Option ab_V → List ab_Ob → Prop, ab_Ct d 0 0 mX9_refused [ab_O 0, ab_I 1] [(ab_pf w0 0 0)] Q1 ∧ (∀ r2 : Int, ∀ v3 : ab_Ob, Q1 (some (ab_I r2)) [v3] → Post (some (ab_I r2)) [v3]))) ∧ (¬ (w0.1 14) = 0 → ((¬ (w0.1 15) = 0 → ab_J x 29 [some (ab_O 0), some (ab_I 0), some (ab_I 0)] [] [(ab_pf w0 0 0)] kc ks) ∧ ((w0.1 15) = 0 → (∃ Q4 : Option ab_V → List ab_Ob → Prop, ab_Ct d 0 0 mX9_refused [ab_O 0, ab_I 1] [(ab_pf w0 0 0)] Q4 ∧ (∀ r5 : Int, ∀ v6 : ab_Ob, Q4 (some (ab_I r5)) [v6] → Post (some (ab_I r5)) [v6]))))))) :
    ab_J x 0 [some (ab_O 0), none, none] [] [w0] kc ks := ab_go hx kX9_keptBreaks.2 18 [(29, [true, true, true])] 0 h
set_option maxRecDepth 100000 in
theorem vX9_keptBreaks_29 {x : ab_Cx} {d mc ms : Nat} {Post : Option ab_V → List ab_Ob → Prop} (hx : ab_At x mX9_keptBreaks d mc ms Post) (l1 l2 : Int) (w0 : ab_Ob) (kc ks : Nat)
    (h : (((w0.1 51) ≤ l2 → (∃ Q1 : Option ab_V → List ab_Ob → Prop, ab_Ct d 0 0 mX9_good [ab_O 0, ab_I l1] [w0] Q1 ∧ (∀ r2 : Int, ∀ v3 : ab_Ob, Q1 (some (ab_I r2)) [v3] → Post (some (ab_I r2)) [v3]))) ∧ (¬ (w0.1 51) ≤ l2 → ((0 ≤ l2 ∧ l2 < (w0.2 48).1) ∧ ((0 ≤ l2 ∧ l2 < (w0.2 49).1) ∧ ((0 ≤ l2 ∧ l2 < (w0.2 47).1) ∧ ((0 ≤ l2 ∧ l2 < (w0.2 45).1) ∧ ((-2147483648 ≤ ((w0.2 47).2 l2) - ((w0.2 45).2 l2) ∧ ((w0.2 47).2 l2) - ((w0.2 45).2 l2) ≤ 2147483647) ∧ ((-2147483648 ≤ (((w0.2 47).2 l2) - ((w0.2 45).2 l2)) + 1 ∧ (((w0.2 47).2 l2) - ((w0.2 45).2 l2)) + 1 ≤ 2147483647) ∧ ((0 ≤ l2 ∧ l2 < (w0.2 46).1) ∧ ((0 ≤ l2 ∧ l2 < (w0.2 47).1) ∧ ((-2147483648 ≤ ((w0.2 46).2 l2) - ((w0.2 47).2 l2) ∧ ((w0.2 46).2 l2) - ((w0.2 47).2 l2) ≤ 2147483647) ∧ (∃ Q4 : Option ab_V → List ab_Ob → Prop, ab_Ct d 0 0 mX9_brokenAll [ab_O 0, ab_I ((w0.2 48).2 l2), ab_I ((w0.2 49).2 l2), ab_I ((((w0.2 47).2 l2) - ((w0.2 45).2 l2)) + 1), ab_I (((w0.2 46).2 l2) - ((w0.2 47).2 l2))] [w0] Q4 ∧ (∀ r5 : Int, Q4 (some (ab_I r5)) [w0] → ((-2147483648 ≤ l1 + r5 ∧ l1 + r5 ≤ 2147483647) ∧ ((-2147483648 ≤ l2 + 1 ∧ l2 + 1 ≤ 2147483647) ∧ ab_J x 29 [some (ab_O 0), some (ab_I (l1 + r5)), some (ab_I (l2 + 1))] [] [w0] kc ks)))))))))))))))) :
    ab_J x 29 [some (ab_O 0), some (ab_I l1), some (ab_I l2)] [] [w0] kc ks := ab_go hx kX9_keptBreaks.2 44 [(29, [true, true, true])] 29 h
