def mX9_ways : ab_M := ((yX9_ways, cX9_ways, 7, (some .long)), ([9], [(0, 0)], [true], false, false, 0), (false, 9, 2))
def rX9_ways : List ab_R := [(0, .aload_n 0, 1, 0, 0, 0, [], none),
  (1, .iconst 0, 1, 0, 0, 0, [], none),
  (2, .putfield 100, 3, 9, 0, 0, [], none),
  (5, .aload_n 0, 1, 0, 0, 0, [], none),
  (6, .iload_n 1, 1, 0, 0, 0, [], none),
  (7, .iload_n 2, 1, 0, 0, 0, [], none),
  (8, .invokevirtual 314, 3, 0, 0, 0, [], some mX9_isSpan),
  (11, .ifCond .ne 10, 3, 0, 0, 0, [21], none),
  (14, .aload_n 0, 1, 0, 0, 0, [], none),
  (15, .iconst 1, 1, 0, 0, 0, [], none),
  (16, .invokevirtual 229, 3, 0, 0, 0, [], some mX9_refused),
  (19, .i2l, 1, 0, 0, 0, [], none),
  (20, .lreturn, 1, 0, 0, 0, [], none),
  (21, .aload_n 0, 1, 0, 0, 0, [], none),
  (22, .getfield 33, 3, 9, 27, 0, [], none),
  (25, .iload_n 1, 1, 0, 0, 0, [], none),
  (26, .iload_n 2, 1, 0, 0, 0, [], none),
  (27, .aload_n 0, 1, 0, 0, 0, [], none),
  (28, .iload_n 1, 1, 0, 0, 0, [], none),
  (29, .iload_n 2, 1, 0, 0, 0, [], none),
  (30, .invokevirtual 318, 3, 0, 0, 0, [], some mX9_headOf),
  (33, .invokestatic 289, 3, 0, 0, 0, [], some mX9_cube),
  (36, .iaload, 1, 0, 0, 0, [], none),
  (37, .istore_n 3, 1, 0, 0, 0, [], none),
  (38, .lconst 0, 1, 0, 0, 0, [], none),
  (39, .lstore 4, 2, 0, 0, 0, [], none),
  (41, .iload_n 1, 1, 0, 0, 0, [], none),
  (42, .istore 6, 2, 0, 0, 0, [], none),
  (44, .iload 6, 2, 0, 0, 0, [], none),
  (46, .iload_n 2, 1, 0, 0, 0, [], none),
  (47, .if_icmp .gt 42, 3, 0, 0, 0, [89], none),
  (50, .aload_n 0, 1, 0, 0, 0, [], none),
  (51, .getfield 33, 3, 9, 27, 0, [], none),
  (54, .iload_n 1, 1, 0, 0, 0, [], none),
  (55, .iload_n 2, 1, 0, 0, 0, [], none),
  (56, .iload 6, 2, 0, 0, 0, [], none),
  (58, .invokestatic 289, 3, 0, 0, 0, [], some mX9_cube),
  (61, .iaload, 1, 0, 0, 0, [], none),
  (62, .iload_n 3, 1, 0, 0, 0, [], none),
  (63, .if_icmp .ne 20, 3, 0, 0, 0, [83], none),
  (66, .lload 4, 2, 0, 0, 0, [], none),
  (68, .aload_n 0, 1, 0, 0, 0, [], none),
  (69, .getfield 42, 3, 9, 30, 0, [], none),
  (72, .iload_n 1, 1, 0, 0, 0, [], none),
  (73, .iload_n 2, 1, 0, 0, 0, [], none),
  (74, .iload 6, 2, 0, 0, 0, [], none),
  (76, .invokestatic 289, 3, 0, 0, 0, [], some mX9_cube),
  (79, .laload, 1, 0, 0, 0, [], none),
  (80, .ladd, 1, 0, 0, 0, [], none),
  (81, .lstore 4, 2, 0, 0, 0, [], none),
  (83, .iinc 6 1, 3, 0, 0, 0, [], none),
  (86, .goto (-42), 3, 0, 0, 0, [44], none),
  (89, .aload_n 0, 1, 0, 0, 0, [], none),
  (90, .iconst 0, 1, 0, 0, 0, [], none),
  (91, .invokevirtual 255, 3, 0, 0, 0, [], some mX9_good),
  (94, .pop, 1, 0, 0, 0, [], none),
  (95, .lload 4, 2, 0, 0, 0, [], none),
  (97, .ldc2_w 305, 3, 0, 1000000000000, 0, [], none),
  (100, .lcmp, 1, 0, 0, 0, [], none),
  (101, .ifCond .le 9, 3, 0, 0, 0, [110], none),
  (104, .ldc2_w 305, 3, 0, 1000000000000, 0, [], none),
  (107, .goto 5, 3, 0, 0, 0, [112], none),
  (110, .lload 4, 2, 0, 0, 0, [], none),
  (112, .lreturn, 1, 0, 0, 0, [], none)]
set_option maxRecDepth 100000 in
theorem kX9_ways : ab_def_ok mX9_ways rX9_ways := ⟨ab_mok_of 1563 108 1561 1562 (by decide +kernel), [0, 0, 1192, 0, 0, 0, 1544, 0, 0, 0, 1361, 0, 0, 0, 1219, 0, 0, 0, 0, 0, 1501, 1470, 0, 0, 0, 0, 0, 0, 0, 0, 0, 0, 1219, 0, 0, 0, 1470, 0, 0, 0, 0, 0, 1222, 0, 0, 0, 1470, 0, 0, 0, 0, 0, 0, 0, 1509, 0, 0, 1496, 0, 0, 1496, 0, 0, 0], by decide +kernel⟩
set_option maxRecDepth 100000 in
theorem vX9_ways_0 {x : ab_Cx} {d mc ms : Nat} {Post : Option ab_V → List ab_Ob → Prop} (hx : ab_At x mX9_ways d mc ms Post) (a1 a2 : Int) (w0 : ab_Ob) (kc ks : Nat)
    (h : (∃ Q1 : Option ab_V → List ab_Ob → Prop, ab_Ct d 0 0 mX9_isSpan [ab_O 0, ab_I a1, ab_I a2] [(ab_pf w0 0 0)] Q1 ∧ (∀ r2 : Int, Q1 (some (ab_I r2)) [(ab_pf w0 0 0)] → ((¬ r2 = 0 → (∃ Q3 : Option ab_V → List ab_Ob → Prop, ab_Ct d 0 0 mX9_headOf [ab_O 0, ab_I a1, ab_I a2] [(ab_pf w0 0 0)] Q3 ∧ (∀ r4 : Int, Q3 (some (ab_I r4)) [(ab_pf w0 0 0)] → (∃ Q5 : Option ab_V → List ab_Ob → Prop, ab_Ct d 0 0 mX9_cube [ab_I a1, ab_I a2, ab_I r4] [] Q5 ∧ (∀ r6 : Int, Q5 (some (ab_I r6)) [] → ((0 ≤ r6 ∧ r6 < (w0.2 27).1) ∧ ab_J x 44 [some (ab_O 0), some (ab_I a1), some (ab_I a2), some (ab_I ((w0.2 27).2 r6)), some (ab_L 0), none, some (ab_I a1)] [] [(ab_pf w0 0 0)] kc ks)))))) ∧ (r2 = 0 → (∃ Q7 : Option ab_V → List ab_Ob → Prop, ab_Ct d 0 0 mX9_refused [ab_O 0, ab_I 1] [(ab_pf w0 0 0)] Q7 ∧ (∀ r8 : Int, ∀ v9 : ab_Ob, Q7 (some (ab_I r8)) [v9] → Post (some (ab_L r8)) [v9]))))))) :
    ab_J x 0 [some (ab_O 0), some (ab_I a1), some (ab_I a2), none, none, none, none] [] [w0] kc ks := ab_go hx kX9_ways.2 28 [(44, [true, true, true, true, true, false, true])] 0 h
set_option maxRecDepth 100000 in
theorem vX9_ways_44 {x : ab_Cx} {d mc ms : Nat} {Post : Option ab_V → List ab_Ob → Prop} (hx : ab_At x mX9_ways d mc ms Post) (l1 l2 l3 l4 l6 : Int) (w0 : ab_Ob) (kc ks : Nat)
    (h : ((l2 < l6 → (∃ Q1 : Option ab_V → List ab_Ob → Prop, ab_Ct d 0 0 mX9_good [ab_O 0, ab_I 0] [w0] Q1 ∧ (∀ r2 : Int, ∀ v3 : ab_Ob, Q1 (some (ab_I r2)) [v3] → (((ab_cmp l4 1000000000000) ≤ 0 → Post (some (ab_L l4)) [v3]) ∧ (¬ (ab_cmp l4 1000000000000) ≤ 0 → Post (some (ab_L 1000000000000)) [v3]))))) ∧ (¬ l2 < l6 → (∃ Q4 : Option ab_V → List ab_Ob → Prop, ab_Ct d 0 0 mX9_cube [ab_I l1, ab_I l2, ab_I l6] [] Q4 ∧ (∀ r5 : Int, Q4 (some (ab_I r5)) [] → ((0 ≤ r5 ∧ r5 < (w0.2 27).1) ∧ ((¬ ((w0.2 27).2 r5) = l3 → ((-2147483648 ≤ l6 + 1 ∧ l6 + 1 ≤ 2147483647) ∧ ab_J x 44 [some (ab_O 0), some (ab_I l1), some (ab_I l2), some (ab_I l3), some (ab_L l4), none, some (ab_I (l6 + 1))] [] [w0] kc ks)) ∧ (((w0.2 27).2 r5) = l3 → (∃ Q6 : Option ab_V → List ab_Ob → Prop, ab_Ct d 0 0 mX9_cube [ab_I l1, ab_I l2, ab_I l6] [] Q6 ∧ (∀ r7 : Int, Q6 (some (ab_I r7)) [] → ((0 ≤ r7 ∧ r7 < (w0.2 30).1) ∧ ((-9223372036854775808 ≤ l4 + ((w0.2 30).2 r7) ∧ l4 + ((w0.2 30).2 r7) ≤ 9223372036854775807) ∧ ((-2147483648 ≤ l6 + 1 ∧ l6 + 1 ≤ 2147483647) ∧ ab_J x 44 [some (ab_O 0), some (ab_I l1), some (ab_I l2), some (ab_I l3), some (ab_L (l4 + ((w0.2 30).2 r7))), none, some (ab_I (l6 + 1))] [] [w0] kc ks))))))))))))) :
    ab_J x 44 [some (ab_O 0), some (ab_I l1), some (ab_I l2), some (ab_I l3), some (ab_L l4), none, some (ab_I l6)] [] [w0] kc ks := ab_go hx kX9_ways.2 29 [(44, [true, true, true, true, true, false, true])] 44 h
def mX9_splitCost : ab_M := ((yX9_splitCost, cX9_splitCost, 9, (some .int)), ([9], [(0, 0)], [true], false, false, 0), (false, 9, 3))
def rX9_splitCost : List ab_R := [(0, .aload_n 0, 1, 0, 0, 0, [], none),
  (1, .iconst 0, 1, 0, 0, 0, [], none),
  (2, .putfield 100, 3, 9, 0, 0, [], none),
  (5, .aload_n 0, 1, 0, 0, 0, [], none),
  (6, .iload_n 1, 1, 0, 0, 0, [], none),
  (7, .iload_n 2, 1, 0, 0, 0, [], none),
  (8, .invokevirtual 314, 3, 0, 0, 0, [], some mX9_isSpan),
  (11, .ifCond .eq 14, 3, 0, 0, 0, [25], none),
  (14, .iload_n 3, 1, 0, 0, 0, [], none),
  (15, .iload_n 1, 1, 0, 0, 0, [], none),
  (16, .iload_n 2, 1, 0, 0, 0, [], none),
  (17, .iconst 1, 1, 0, 0, 0, [], none),
  (18, .isub, 1, 0, 0, 0, [], none),
  (19, .invokestatic 125, 3, 0, 0, 0, [], some mX9_in),
  (22, .ifCond .ne 9, 3, 0, 0, 0, [31], none),
  (25, .aload_n 0, 1, 0, 0, 0, [], none),
  (26, .iconst 1, 1, 0, 0, 0, [], none),
  (27, .invokevirtual 229, 3, 0, 0, 0, [], some mX9_refused),
  (30, .ireturn, 1, 0, 0, 0, [], none),
  (31, .ldc_w 293, 3, 0, 1000000000, 0, [], none),
  (34, .istore 4, 2, 0, 0, 0, [], none),
  (36, .iload_n 1, 1, 0, 0, 0, [], none),
  (37, .istore 5, 2, 0, 0, 0, [], none),
  (39, .iload 5, 2, 0, 0, 0, [], none),
  (41, .iload_n 3, 1, 0, 0, 0, [], none),
  (42, .if_icmp .gt 74, 3, 0, 0, 0, [116], none),
  (45, .iload_n 3, 1, 0, 0, 0, [], none),
  (46, .iconst 1, 1, 0, 0, 0, [], none),
  (47, .iadd, 1, 0, 0, 0, [], none),
  (48, .istore 6, 2, 0, 0, 0, [], none),
  (50, .iload 6, 2, 0, 0, 0, [], none),
  (52, .iload_n 2, 1, 0, 0, 0, [], none),
  (53, .if_icmp .gt 57, 3, 0, 0, 0, [110], none),
  (56, .aload_n 0, 1, 0, 0, 0, [], none),
  (57, .iload_n 1, 1, 0, 0, 0, [], none),
  (58, .iload_n 2, 1, 0, 0, 0, [], none),
  (59, .iload 5, 2, 0, 0, 0, [], none),
  (61, .iload_n 3, 1, 0, 0, 0, [], none),
  (62, .iload 6, 2, 0, 0, 0, [], none),
  (64, .invokevirtual 302, 3, 0, 0, 0, [], some mX9_joinedBy),
  (67, .istore 7, 2, 0, 0, 0, [], none),
  (69, .aload_n 0, 1, 0, 0, 0, [], none),
  (70, .iload_n 1, 1, 0, 0, 0, [], none),
  (71, .iload_n 2, 1, 0, 0, 0, [], none),
  (72, .iload 6, 2, 0, 0, 0, [], none),
  (74, .iload_n 3, 1, 0, 0, 0, [], none),
  (75, .iload 5, 2, 0, 0, 0, [], none),
  (77, .invokevirtual 302, 3, 0, 0, 0, [], some mX9_joinedBy),
  (80, .istore 8, 2, 0, 0, 0, [], none),
  (82, .iload 7, 2, 0, 0, 0, [], none),
  (84, .iload 4, 2, 0, 0, 0, [], none),
  (86, .if_icmp .ge 7, 3, 0, 0, 0, [93], none),
  (89, .iload 7, 2, 0, 0, 0, [], none),
  (91, .istore 4, 2, 0, 0, 0, [], none),
  (93, .iload 8, 2, 0, 0, 0, [], none),
  (95, .iload 4, 2, 0, 0, 0, [], none),
  (97, .if_icmp .ge 7, 3, 0, 0, 0, [104], none),
  (100, .iload 8, 2, 0, 0, 0, [], none),
  (102, .istore 4, 2, 0, 0, 0, [], none),
  (104, .iinc 6 1, 3, 0, 0, 0, [], none),
  (107, .goto (-57), 3, 0, 0, 0, [50], none),
  (110, .iinc 5 1, 3, 0, 0, 0, [], none),
  (113, .goto (-74), 3, 0, 0, 0, [39], none),
  (116, .aload_n 0, 1, 0, 0, 0, [], none),
  (117, .iload 4, 2, 0, 0, 0, [], none),
  (119, .aload_n 0, 1, 0, 0, 0, [], none),
  (120, .getfield 33, 3, 9, 27, 0, [], none),
  (123, .iload_n 1, 1, 0, 0, 0, [], none),
  (124, .iload_n 2, 1, 0, 0, 0, [], none),
  (125, .aload_n 0, 1, 0, 0, 0, [], none),
  (126, .iload_n 1, 1, 0, 0, 0, [], none),
  (127, .iload_n 2, 1, 0, 0, 0, [], none),
  (128, .invokevirtual 318, 3, 0, 0, 0, [], some mX9_headOf),
  (131, .invokestatic 289, 3, 0, 0, 0, [], some mX9_cube),
  (134, .iaload, 1, 0, 0, 0, [], none),
  (135, .isub, 1, 0, 0, 0, [], none),
  (136, .invokevirtual 255, 3, 0, 0, 0, [], some mX9_good),
  (139, .ireturn, 1, 0, 0, 0, [], none)]
set_option maxRecDepth 100000 in
theorem kX9_splitCost : ab_def_ok mX9_splitCost rX9_splitCost := ⟨ab_mok_of 1567 108 1565 1566 (by decide +kernel), [0, 0, 1192, 0, 0, 0, 1544, 0, 0, 0, 0, 0, 0, 1377, 0, 0, 0, 1361, 0, 1473, 0, 0, 0, 0, 0, 0, 0, 0, 0, 0, 0, 0, 0, 0, 0, 0, 0, 0, 0, 1478, 0, 0, 0, 0, 0, 0, 0, 1478, 0, 0, 0, 0, 0, 0, 0, 0, 0, 0, 0, 0, 0, 0, 0, 0, 0, 0, 1219, 0, 0, 0, 0, 0, 1501, 1470, 0, 0, 1509, 0], by decide +kernel⟩
set_option maxRecDepth 100000 in
theorem vX9_splitCost_0 {x : ab_Cx} {d mc ms : Nat} {Post : Option ab_V → List ab_Ob → Prop} (hx : ab_At x mX9_splitCost d mc ms Post) (a1 a2 a3 : Int) (w0 : ab_Ob) (kc ks : Nat)
    (h : (∃ Q1 : Option ab_V → List ab_Ob → Prop, ab_Ct d 0 0 mX9_isSpan [ab_O 0, ab_I a1, ab_I a2] [(ab_pf w0 0 0)] Q1 ∧ (∀ r2 : Int, Q1 (some (ab_I r2)) [(ab_pf w0 0 0)] → ((r2 = 0 → (∃ Q3 : Option ab_V → List ab_Ob → Prop, ab_Ct d 0 0 mX9_refused [ab_O 0, ab_I 1] [(ab_pf w0 0 0)] Q3 ∧ (∀ r4 : Int, ∀ v5 : ab_Ob, Q3 (some (ab_I r4)) [v5] → Post (some (ab_I r4)) [v5]))) ∧ (¬ r2 = 0 → ((-2147483648 ≤ a2 - 1 ∧ a2 - 1 ≤ 2147483647) ∧ (∃ Q6 : Option ab_V → List ab_Ob → Prop, ab_Ct d 0 0 mX9_in [ab_I a3, ab_I a1, ab_I (a2 - 1)] [] Q6 ∧ (∀ r7 : Int, Q6 (some (ab_I r7)) [] → ((¬ r7 = 0 → ab_J x 39 [some (ab_O 0), some (ab_I a1), some (ab_I a2), some (ab_I a3), some (ab_I 1000000000), some (ab_I a1), none, none, none] [] [(ab_pf w0 0 0)] kc ks) ∧ (r7 = 0 → (∃ Q8 : Option ab_V → List ab_Ob → Prop, ab_Ct d 0 0 mX9_refused [ab_O 0, ab_I 1] [(ab_pf w0 0 0)] Q8 ∧ (∀ r9 : Int, ∀ v10 : ab_Ob, Q8 (some (ab_I r9)) [v10] → Post (some (ab_I r9)) [v10])))))))))))) :
    ab_J x 0 [some (ab_O 0), some (ab_I a1), some (ab_I a2), some (ab_I a3), none, none, none, none, none] [] [w0] kc ks := ab_go hx kX9_splitCost.2 24 [(39, [true, true, true, true, true, true, false, false, false]), (50, [true, true, true, true, true, true, true, false, false])] 0 h
set_option maxRecDepth 100000 in
theorem vX9_splitCost_39 {x : ab_Cx} {d mc ms : Nat} {Post : Option ab_V → List ab_Ob → Prop} (hx : ab_At x mX9_splitCost d mc ms Post) (l1 l2 l3 l4 l5 : Int) (w0 : ab_Ob) (kc ks : Nat)
    (h : ((l3 < l5 → (∃ Q1 : Option ab_V → List ab_Ob → Prop, ab_Ct d 0 0 mX9_headOf [ab_O 0, ab_I l1, ab_I l2] [w0] Q1 ∧ (∀ r2 : Int, Q1 (some (ab_I r2)) [w0] → (∃ Q3 : Option ab_V → List ab_Ob → Prop, ab_Ct d 0 0 mX9_cube [ab_I l1, ab_I l2, ab_I r2] [] Q3 ∧ (∀ r4 : Int, Q3 (some (ab_I r4)) [] → ((0 ≤ r4 ∧ r4 < (w0.2 27).1) ∧ ((-2147483648 ≤ l4 - ((w0.2 27).2 r4) ∧ l4 - ((w0.2 27).2 r4) ≤ 2147483647) ∧ (∃ Q5 : Option ab_V → List ab_Ob → Prop, ab_Ct d 0 0 mX9_good [ab_O 0, ab_I (l4 - ((w0.2 27).2 r4))] [w0] Q5 ∧ (∀ r6 : Int, ∀ v7 : ab_Ob, Q5 (some (ab_I r6)) [v7] → Post (some (ab_I r6)) [v7]))))))))) ∧ (¬ l3 < l5 → ((-2147483648 ≤ l3 + 1 ∧ l3 + 1 ≤ 2147483647) ∧ ab_J x 50 [some (ab_O 0), some (ab_I l1), some (ab_I l2), some (ab_I l3), some (ab_I l4), some (ab_I l5), some (ab_I (l3 + 1)), none, none] [] [w0] kc ks)))) :
    ab_J x 39 [some (ab_O 0), some (ab_I l1), some (ab_I l2), some (ab_I l3), some (ab_I l4), some (ab_I l5), none, none, none] [] [w0] kc ks := ab_go hx kX9_splitCost.2 22 [(39, [true, true, true, true, true, true, false, false, false]), (50, [true, true, true, true, true, true, true, false, false])] 39 h
set_option maxRecDepth 100000 in
theorem vX9_splitCost_50 {x : ab_Cx} {d mc ms : Nat} {Post : Option ab_V → List ab_Ob → Prop} (hx : ab_At x mX9_splitCost d mc ms Post) (l1 l2 l3 l4 l5 l6 : Int) (w0 : ab_Ob) (kc ks : Nat)
    (h : ((l2 < l6 → ((-2147483648 ≤ l5 + 1 ∧ l5 + 1 ≤ 2147483647) ∧ ab_J x 39 [some (ab_O 0), some (ab_I l1), some (ab_I l2), some (ab_I l3), some (ab_I l4), some (ab_I (l5 + 1)), none, none, none] [] [w0] kc ks)) ∧ (¬ l2 < l6 → (∃ Q1 : Option ab_V → List ab_Ob → Prop, ab_Ct d 0 0 mX9_joinedBy [ab_O 0, ab_I l1, ab_I l2, ab_I l5, ab_I l3, ab_I l6] [w0] Q1 ∧ (∀ r2 : Int, Q1 (some (ab_I r2)) [w0] → (∃ Q3 : Option ab_V → List ab_Ob → Prop, ab_Ct d 0 0 mX9_joinedBy [ab_O 0, ab_I l1, ab_I l2, ab_I l6, ab_I l3, ab_I l5] [w0] Q3 ∧ (∀ r4 : Int, Q3 (some (ab_I r4)) [w0] → ((l4 ≤ r2 → ((l4 ≤ r4 → ((-2147483648 ≤ l6 + 1 ∧ l6 + 1 ≤ 2147483647) ∧ ab_J x 50 [some (ab_O 0), some (ab_I l1), some (ab_I l2), some (ab_I l3), some (ab_I l4), some (ab_I l5), some (ab_I (l6 + 1)), none, none] [] [w0] kc ks)) ∧ (¬ l4 ≤ r4 → ((-2147483648 ≤ l6 + 1 ∧ l6 + 1 ≤ 2147483647) ∧ ab_J x 50 [some (ab_O 0), some (ab_I l1), some (ab_I l2), some (ab_I l3), some (ab_I r4), some (ab_I l5), some (ab_I (l6 + 1)), none, none] [] [w0] kc ks)))) ∧ (¬ l4 ≤ r2 → ((r2 ≤ r4 → ((-2147483648 ≤ l6 + 1 ∧ l6 + 1 ≤ 2147483647) ∧ ab_J x 50 [some (ab_O 0), some (ab_I l1), some (ab_I l2), some (ab_I l3), some (ab_I r2), some (ab_I l5), some (ab_I (l6 + 1)), none, none] [] [w0] kc ks)) ∧ (¬ r2 ≤ r4 → ((-2147483648 ≤ l6 + 1 ∧ l6 + 1 ≤ 2147483647) ∧ ab_J x 50 [some (ab_O 0), some (ab_I l1), some (ab_I l2), some (ab_I l3), some (ab_I r4), some (ab_I l5), some (ab_I (l6 + 1)), none, none] [] [w0] kc ks)))))))))))) :
    ab_J x 50 [some (ab_O 0), some (ab_I l1), some (ab_I l2), some (ab_I l3), some (ab_I l4), some (ab_I l5), some (ab_I l6), none, none] [] [w0] kc ks := ab_go hx kX9_splitCost.2 36 [(39, [true, true, true, true, true, true, false, false, false]), (50, [true, true, true, true, true, true, true, false, false])] 50 h
def mX9_second : ab_M := ((yX9_second, cX9_second, 6, (some .int)), ([9], [(0, 0)], [true], false, false, 0), (false, 9, 2))
def rX9_second : List ab_R := [(0, .aload_n 0, 1, 0, 0, 0, [], none),
  (1, .iconst 0, 1, 0, 0, 0, [], none),
  (2, .putfield 100, 3, 9, 0, 0, [], none),
  (5, .aload_n 0, 1, 0, 0, 0, [], none),
  (6, .iload_n 1, 1, 0, 0, 0, [], none),
  (7, .iload_n 2, 1, 0, 0, 0, [], none),
  (8, .invokevirtual 314, 3, 0, 0, 0, [], some mX9_isSpan),
  (11, .ifCond .ne 9, 3, 0, 0, 0, [20], none),
  (14, .aload_n 0, 1, 0, 0, 0, [], none),
  (15, .iconst 1, 1, 0, 0, 0, [], none),
  (16, .invokevirtual 229, 3, 0, 0, 0, [], some mX9_refused),
  (19, .ireturn, 1, 0, 0, 0, [], none),
  (20, .aload_n 0, 1, 0, 0, 0, [], none),
  (21, .iload_n 1, 1, 0, 0, 0, [], none),
  (22, .iload_n 2, 1, 0, 0, 0, [], none),
  (23, .invokevirtual 318, 3, 0, 0, 0, [], some mX9_headOf),
  (26, .istore_n 3, 1, 0, 0, 0, [], none),
  (27, .bipush (-2), 2, 0, 0, 0, [], none),
  (29, .istore 4, 2, 0, 0, 0, [], none),
  (31, .iload_n 1, 1, 0, 0, 0, [], none),
  (32, .istore 5, 2, 0, 0, 0, [], none),
  (34, .iload 5, 2, 0, 0, 0, [], none),
  (36, .iload_n 2, 1, 0, 0, 0, [], none),
  (37, .if_icmp .gt 53, 3, 0, 0, 0, [90], none),
  (40, .iload 5, 2, 0, 0, 0, [], none),
  (42, .iload_n 3, 1, 0, 0, 0, [], none),
  (43, .if_icmp .eq 41, 3, 0, 0, 0, [84], none),
  (46, .iload 4, 2, 0, 0, 0, [], none),
  (48, .bipush (-2), 2, 0, 0, 0, [], none),
  (50, .if_icmp .eq 30, 3, 0, 0, 0, [80], none),
  (53, .aload_n 0, 1, 0, 0, 0, [], none),
  (54, .getfield 33, 3, 9, 27, 0, [], none),
  (57, .iload_n 1, 1, 0, 0, 0, [], none),
  (58, .iload_n 2, 1, 0, 0, 0, [], none),
  (59, .iload 5, 2, 0, 0, 0, [], none),
  (61, .invokestatic 289, 3, 0, 0, 0, [], some mX9_cube),
  (64, .iaload, 1, 0, 0, 0, [], none),
  (65, .aload_n 0, 1, 0, 0, 0, [], none),
  (66, .getfield 33, 3, 9, 27, 0, [], none),
  (69, .iload_n 1, 1, 0, 0, 0, [], none),
  (70, .iload_n 2, 1, 0, 0, 0, [], none),
  (71, .iload 4, 2, 0, 0, 0, [], none),
  (73, .invokestatic 289, 3, 0, 0, 0, [], some mX9_cube),
  (76, .iaload, 1, 0, 0, 0, [], none),
  (77, .if_icmp .ge 7, 3, 0, 0, 0, [84], none),
  (80, .iload 5, 2, 0, 0, 0, [], none),
  (82, .istore 4, 2, 0, 0, 0, [], none),
  (84, .iinc 5 1, 3, 0, 0, 0, [], none),
  (87, .goto (-53), 3, 0, 0, 0, [34], none),
  (90, .aload_n 0, 1, 0, 0, 0, [], none),
  (91, .iload 4, 2, 0, 0, 0, [], none),
  (93, .invokevirtual 255, 3, 0, 0, 0, [], some mX9_good),
  (96, .ireturn, 1, 0, 0, 0, [], none)]
set_option maxRecDepth 100000 in
theorem kX9_second : ab_def_ok mX9_second rX9_second := ⟨ab_mok_of 1571 108 1569 1570 (by decide +kernel), [0, 0, 1192, 0, 0, 0, 1544, 0, 0, 0, 1361, 0, 0, 0, 0, 1501, 0, 0, 0, 0, 0, 0, 0, 0, 0, 0, 0, 0, 0, 0, 0, 1219, 0, 0, 0, 1470, 0, 0, 1219, 0, 0, 0, 1470, 0, 0, 0, 0, 0, 0, 0, 0, 1509, 0], by decide +kernel⟩
set_option maxRecDepth 100000 in
theorem vX9_second_0 {x : ab_Cx} {d mc ms : Nat} {Post : Option ab_V → List ab_Ob → Prop} (hx : ab_At x mX9_second d mc ms Post) (a1 a2 : Int) (w0 : ab_Ob) (kc ks : Nat)
    (h : (∃ Q1 : Option ab_V → List ab_Ob → Prop, ab_Ct d 0 0 mX9_isSpan [ab_O 0, ab_I a1, ab_I a2] [(ab_pf w0 0 0)] Q1 ∧ (∀ r2 : Int, Q1 (some (ab_I r2)) [(ab_pf w0 0 0)] → ((¬ r2 = 0 → (∃ Q3 : Option ab_V → List ab_Ob → Prop, ab_Ct d 0 0 mX9_headOf [ab_O 0, ab_I a1, ab_I a2] [(ab_pf w0 0 0)] Q3 ∧ (∀ r4 : Int, Q3 (some (ab_I r4)) [(ab_pf w0 0 0)] → ab_J x 34 [some (ab_O 0), some (ab_I a1), some (ab_I a2), some (ab_I r4), some (ab_I (-2)), some (ab_I a1)] [] [(ab_pf w0 0 0)] kc ks))) ∧ (r2 = 0 → (∃ Q5 : Option ab_V → List ab_Ob → Prop, ab_Ct d 0 0 mX9_refused [ab_O 0, ab_I 1] [(ab_pf w0 0 0)] Q5 ∧ (∀ r6 : Int, ∀ v7 : ab_Ob, Q5 (some (ab_I r6)) [v7] → Post (some (ab_I r6)) [v7]))))))) :
    ab_J x 0 [some (ab_O 0), some (ab_I a1), some (ab_I a2), none, none, none] [] [w0] kc ks := ab_go hx kX9_second.2 22 [(34, [true, true, true, true, true, true])] 0 h
set_option maxRecDepth 100000 in
theorem vX9_second_34 {x : ab_Cx} {d mc ms : Nat} {Post : Option ab_V → List ab_Ob → Prop} (hx : ab_At x mX9_second d mc ms Post) (l1 l2 l3 l4 l5 : Int) (w0 : ab_Ob) (kc ks : Nat)
    (h : ((l2 < l5 → (∃ Q1 : Option ab_V → List ab_Ob → Prop, ab_Ct d 0 0 mX9_good [ab_O 0, ab_I l4] [w0] Q1 ∧ (∀ r2 : Int, ∀ v3 : ab_Ob, Q1 (some (ab_I r2)) [v3] → Post (some (ab_I r2)) [v3]))) ∧ (¬ l2 < l5 → ((l5 = l3 → ((-2147483648 ≤ l5 + 1 ∧ l5 + 1 ≤ 2147483647) ∧ ab_J x 34 [some (ab_O 0), some (ab_I l1), some (ab_I l2), some (ab_I l3), some (ab_I l4), some (ab_I (l5 + 1))] [] [w0] kc ks)) ∧ (¬ l5 = l3 → ((l4 = (-2) → ((-2147483648 ≤ l5 + 1 ∧ l5 + 1 ≤ 2147483647) ∧ ab_J x 34 [some (ab_O 0), some (ab_I l1), some (ab_I l2), some (ab_I l3), some (ab_I l5), some (ab_I (l5 + 1))] [] [w0] kc ks)) ∧ (¬ l4 = (-2) → (∃ Q4 : Option ab_V → List ab_Ob → Prop, ab_Ct d 0 0 mX9_cube [ab_I l1, ab_I l2, ab_I l5] [] Q4 ∧ (∀ r5 : Int, Q4 (some (ab_I r5)) [] → ((0 ≤ r5 ∧ r5 < (w0.2 27).1) ∧ (∃ Q6 : Option ab_V → List ab_Ob → Prop, ab_Ct d 0 0 mX9_cube [ab_I l1, ab_I l2, ab_I l4] [] Q6 ∧ (∀ r7 : Int, Q6 (some (ab_I r7)) [] → ((0 ≤ r7 ∧ r7 < (w0.2 27).1) ∧ ((((w0.2 27).2 r7) ≤ ((w0.2 27).2 r5) → ((-2147483648 ≤ l5 + 1 ∧ l5 + 1 ≤ 2147483647) ∧ ab_J x 34 [some (ab_O 0), some (ab_I l1), some (ab_I l2), some (ab_I l3), some (ab_I l4), some (ab_I (l5 + 1))] [] [w0] kc ks)) ∧ (¬ ((w0.2 27).2 r7) ≤ ((w0.2 27).2 r5) → ((-2147483648 ≤ l5 + 1 ∧ l5 + 1 ≤ 2147483647) ∧ ab_J x 34 [some (ab_O 0), some (ab_I l1), some (ab_I l2), some (ab_I l3), some (ab_I l5), some (ab_I (l5 + 1))] [] [w0] kc ks)))))))))))))))) :
    ab_J x 34 [some (ab_O 0), some (ab_I l1), some (ab_I l2), some (ab_I l3), some (ab_I l4), some (ab_I l5)] [] [w0] kc ks := ab_go hx kX9_second.2 33 [(34, [true, true, true, true, true, true])] 34 h
def mX9_broken : ab_M := ((yX9_broken, cX9_broken, 6, (some .int)), ([9], [(0, 0)], [true], false, false, 0), (false, 9, 5))
def rX9_broken : List ab_R := [(0, .aload_n 0, 1, 0, 0, 0, [], none),
  (1, .iconst 0, 1, 0, 0, 0, [], none),
  (2, .putfield 100, 3, 9, 0, 0, [], none),
  (5, .aload_n 0, 1, 0, 0, 0, [], none),
  (6, .iload_n 2, 1, 0, 0, 0, [], none),
  (7, .invokevirtual 307, 3, 0, 0, 0, [], some mX9_isNote),
  (10, .ifCond .eq 23, 3, 0, 0, 0, [33], none),
  (13, .aload_n 0, 1, 0, 0, 0, [], none),
  (14, .iload_n 3, 1, 0, 0, 0, [], none),
  (15, .invokevirtual 307, 3, 0, 0, 0, [], some mX9_isNote),
  (18, .ifCond .eq 15, 3, 0, 0, 0, [33], none),
  (21, .iload_n 2, 1, 0, 0, 0, [], none),
  (22, .iload_n 3, 1, 0, 0, 0, [], none),
  (23, .if_icmp .eq 10, 3, 0, 0, 0, [33], none),
  (26, .iload_n 1, 1, 0, 0, 0, [], none),
  (27, .invokestatic 311, 3, 0, 0, 0, [], some mX9_isRule),
  (30, .ifCond .ne 9, 3, 0, 0, 0, [39], none),
  (33, .aload_n 0, 1, 0, 0, 0, [], none),
  (34, .iconst 1, 1, 0, 0, 0, [], none),
  (35, .invokevirtual 229, 3, 0, 0, 0, [], some mX9_refused),
  (38, .ireturn, 1, 0, 0, 0, [], none),
  (39, .iload 4, 2, 0, 0, 0, [], none),
  (41, .iconst 1, 1, 0, 0, 0, [], none),
  (42, .bipush 23, 2, 0, 0, 0, [], none),
  (44, .invokestatic 125, 3, 0, 0, 0, [], some mX9_in),
  (47, .ifCond .eq 14, 3, 0, 0, 0, [61], none),
  (50, .iload 5, 2, 0, 0, 0, [], none),
  (52, .iconst 1, 1, 0, 0, 0, [], none),
  (53, .bipush 23, 2, 0, 0, 0, [], none),
  (55, .invokestatic 125, 3, 0, 0, 0, [], some mX9_in),
  (58, .ifCond .ne 9, 3, 0, 0, 0, [67], none),
  (61, .aload_n 0, 1, 0, 0, 0, [], none),
  (62, .iconst 2, 1, 0, 0, 0, [], none),
  (63, .invokevirtual 229, 3, 0, 0, 0, [], some mX9_refused),
  (66, .ireturn, 1, 0, 0, 0, [], none),
  (67, .aload_n 0, 1, 0, 0, 0, [], none),
  (68, .aload_n 0, 1, 0, 0, 0, [], none),
  (69, .iload_n 1, 1, 0, 0, 0, [], none),
  (70, .iload_n 2, 1, 0, 0, 0, [], none),
  (71, .iload_n 3, 1, 0, 0, 0, [], none),
  (72, .iload 4, 2, 0, 0, 0, [], none),
  (74, .iload 5, 2, 0, 0, 0, [], none),
  (76, .invokevirtual 273, 3, 0, 0, 0, [], some mX9_brokenBy),
  (79, .invokevirtual 255, 3, 0, 0, 0, [], some mX9_good),
  (82, .ireturn, 1, 0, 0, 0, [], none)]
set_option maxRecDepth 100000 in
theorem kX9_broken : ab_def_ok mX9_broken rX9_broken := ⟨ab_mok_of 1575 108 1573 1574 (by decide +kernel), [0, 0, 1192, 0, 0, 1529, 0, 0, 0, 1529, 0, 0, 0, 0, 0, 1537, 0, 0, 0, 1361, 0, 0, 0, 0, 1377, 0, 0, 0, 0, 1377, 0, 0, 0, 1361, 0, 0, 0, 0, 0, 0, 0, 0, 1486, 1509, 0], by decide +kernel⟩
set_option maxRecDepth 100000 in
theorem vX9_broken_0 {x : ab_Cx} {d mc ms : Nat} {Post : Option ab_V → List ab_Ob → Prop} (hx : ab_At x mX9_broken d mc ms Post) (a1 a2 a3 a4 a5 : Int) (w0 : ab_Ob) (kc ks : Nat)
    (h : (∃ Q1 : Option ab_V → List ab_Ob → Prop, ab_Ct d 0 0 mX9_isNote [ab_O 0, ab_I a2] [(ab_pf w0 0 0)] Q1 ∧ (∀ r2 : Int, Q1 (some (ab_I r2)) [(ab_pf w0 0 0)] → ((r2 = 0 → (∃ Q3 : Option ab_V → List ab_Ob → Prop, ab_Ct d 0 0 mX9_refused [ab_O 0, ab_I 1] [(ab_pf w0 0 0)] Q3 ∧ (∀ r4 : Int, ∀ v5 : ab_Ob, Q3 (some (ab_I r4)) [v5] → Post (some (ab_I r4)) [v5]))) ∧ (¬ r2 = 0 → (∃ Q6 : Option ab_V → List ab_Ob → Prop, ab_Ct d 0 0 mX9_isNote [ab_O 0, ab_I a3] [(ab_pf w0 0 0)] Q6 ∧ (∀ r7 : Int, Q6 (some (ab_I r7)) [(ab_pf w0 0 0)] → ((r7 = 0 → (∃ Q8 : Option ab_V → List ab_Ob → Prop, ab_Ct d 0 0 mX9_refused [ab_O 0, ab_I 1] [(ab_pf w0 0 0)] Q8 ∧ (∀ r9 : Int, ∀ v10 : ab_Ob, Q8 (some (ab_I r9)) [v10] → Post (some (ab_I r9)) [v10]))) ∧ (¬ r7 = 0 → ((a2 = a3 → (∃ Q11 : Option ab_V → List ab_Ob → Prop, ab_Ct d 0 0 mX9_refused [ab_O 0, ab_I 1] [(ab_pf w0 0 0)] Q11 ∧ (∀ r12 : Int, ∀ v13 : ab_Ob, Q11 (some (ab_I r12)) [v13] → Post (some (ab_I r12)) [v13]))) ∧ (¬ a2 = a3 → (∃ Q14 : Option ab_V → List ab_Ob → Prop, ab_Ct d 0 0 mX9_isRule [ab_I a1] [] Q14 ∧ (∀ r15 : Int, Q14 (some (ab_I r15)) [] → ((¬ r15 = 0 → (∃ Q16 : Option ab_V → List ab_Ob → Prop, ab_Ct d 0 0 mX9_in [ab_I a4, ab_I 1, ab_I 23] [] Q16 ∧ (∀ r17 : Int, Q16 (some (ab_I r17)) [] → ((r17 = 0 → (∃ Q18 : Option ab_V → List ab_Ob → Prop, ab_Ct d 0 0 mX9_refused [ab_O 0, ab_I 2] [(ab_pf w0 0 0)] Q18 ∧ (∀ r19 : Int, ∀ v20 : ab_Ob, Q18 (some (ab_I r19)) [v20] → Post (some (ab_I r19)) [v20]))) ∧ (¬ r17 = 0 → (∃ Q21 : Option ab_V → List ab_Ob → Prop, ab_Ct d 0 0 mX9_in [ab_I a5, ab_I 1, ab_I 23] [] Q21 ∧ (∀ r22 : Int, Q21 (some (ab_I r22)) [] → ((¬ r22 = 0 → (∃ Q23 : Option ab_V → List ab_Ob → Prop, ab_Ct d 0 0 mX9_brokenBy [ab_O 0, ab_I a1, ab_I a2, ab_I a3, ab_I a4, ab_I a5] [(ab_pf w0 0 0)] Q23 ∧ (∀ r24 : Int, Q23 (some (ab_I r24)) [(ab_pf w0 0 0)] → (∃ Q25 : Option ab_V → List ab_Ob → Prop, ab_Ct d 0 0 mX9_good [ab_O 0, ab_I r24] [(ab_pf w0 0 0)] Q25 ∧ (∀ r26 : Int, ∀ v27 : ab_Ob, Q25 (some (ab_I r26)) [v27] → Post (some (ab_I r26)) [v27]))))) ∧ (r22 = 0 → (∃ Q28 : Option ab_V → List ab_Ob → Prop, ab_Ct d 0 0 mX9_refused [ab_O 0, ab_I 2] [(ab_pf w0 0 0)] Q28 ∧ (∀ r29 : Int, ∀ v30 : ab_Ob, Q28 (some (ab_I r29)) [v30] → Post (some (ab_I r29)) [v30]))))))))))) ∧ (r15 = 0 → (∃ Q31 : Option ab_V → List ab_Ob → Prop, ab_Ct d 0 0 mX9_refused [ab_O 0, ab_I 1] [(ab_pf w0 0 0)] Q31 ∧ (∀ r32 : Int, ∀ v33 : ab_Ob, Q31 (some (ab_I r32)) [v33] → Post (some (ab_I r32)) [v33]))))))))))))))))) :
    ab_J x 0 [some (ab_O 0), some (ab_I a1), some (ab_I a2), some (ab_I a3), some (ab_I a4), some (ab_I a5)] [] [w0] kc ks := ab_go hx kX9_broken.2 41 [] 0 h
def mX9_isJoining : ab_M := ((yX9_isJoining, cX9_isJoining, 2, (some .boolean)), ([9], [(0, 0)], [false], false, false, 0), (false, 9, 1))
def rX9_isJoining : List ab_R := [(0, .aload_n 0, 1, 0, 0, 0, [], none),
  (1, .getfield 46, 3, 9, 31, 0, [], none),
  (4, .iload_n 1, 1, 0, 0, 0, [], none),
  (5, .iaload, 1, 0, 0, 0, [], none),
  (6, .aload_n 0, 1, 0, 0, 0, [], none),
  (7, .getfield 49, 3, 9, 32, 0, [], none),
  (10, .iload_n 1, 1, 0, 0, 0, [], none),
  (11, .iaload, 1, 0, 0, 0, [], none),
  (12, .if_icmp .ge 7, 3, 0, 0, 0, [19], none),
  (15, .iconst 1, 1, 0, 0, 0, [], none),
  (16, .goto 4, 3, 0, 0, 0, [20], none),
  (19, .iconst 0, 1, 0, 0, 0, [], none),
  (20, .ireturn, 1, 0, 0, 0, [], none)]
set_option maxRecDepth 100000 in
theorem kX9_isJoining : ab_def_ok mX9_isJoining rX9_isJoining := ⟨ab_mok_of 1587 108 1586 78 (by decide +kernel), [0, 1223, 0, 0, 0, 1224, 0, 0, 0, 0, 0, 0, 0], by decide +kernel⟩
set_option maxRecDepth 100000 in
theorem vX9_isJoining_0 {x : ab_Cx} {d mc ms : Nat} {Post : Option ab_V → List ab_Ob → Prop} (hx : ab_At x mX9_isJoining d mc ms Post) (a1 : Int) (w0 : ab_Ob) (kc ks : Nat)
    (h : ((0 ≤ a1 ∧ a1 < (w0.2 31).1) ∧ ((0 ≤ a1 ∧ a1 < (w0.2 32).1) ∧ ((((w0.2 32).2 a1) ≤ ((w0.2 31).2 a1) → (((0 : Int) = 0 ∨ (0 : Int) = 1) ∧ Post (some (ab_I 0)) [w0])) ∧ (¬ ((w0.2 32).2 a1) ≤ ((w0.2 31).2 a1) → (((1 : Int) = 0 ∨ (1 : Int) = 1) ∧ Post (some (ab_I 1)) [w0])))))) :
    ab_J x 0 [some (ab_O 0), some (ab_I a1)] [] [w0] kc ks := ab_go hx kX9_isJoining.2 16 [] 0 h
def mX9_joiningAt : ab_M := ((yX9_joiningAt, cX9_joiningAt, 4, (some .int)), ([9], [(0, 0)], [false], false, false, 0), (false, 9, 1))
def rX9_joiningAt : List ab_R := [(0, .iconst 0, 1, 0, 0, 0, [], none),
  (1, .istore_n 2, 1, 0, 0, 0, [], none),
  (2, .iconst 0, 1, 0, 0, 0, [], none),
  (3, .istore_n 3, 1, 0, 0, 0, [], none),
  (4, .iload_n 3, 1, 0, 0, 0, [], none),
  (5, .aload_n 0, 1, 0, 0, 0, [], none),
  (6, .getfield 324, 3, 9, 40, 0, [], none),
  (9, .if_icmp .ge 30, 3, 0, 0, 0, [39], none),
  (12, .aload_n 0, 1, 0, 0, 0, [], none),
  (13, .iload_n 3, 1, 0, 0, 0, [], none),
  (14, .invokevirtual 331, 3, 0, 0, 0, [], some mX9_isJoining),
  (17, .ifCond .ne 6, 3, 0, 0, 0, [23], none),
  (20, .goto 13, 3, 0, 0, 0, [33], none),
  (23, .iload_n 2, 1, 0, 0, 0, [], none),
  (24, .iload_n 1, 1, 0, 0, 0, [], none),
  (25, .if_icmp .ne 5, 3, 0, 0, 0, [30], none),
  (28, .iload_n 3, 1, 0, 0, 0, [], none),
  (29, .ireturn, 1, 0, 0, 0, [], none),
  (30, .iinc 2 1, 3, 0, 0, 0, [], none),
  (33, .iinc 3 1, 3, 0, 0, 0, [], none),
  (36, .goto (-32), 3, 0, 0, 0, [4], none),
  (39, .iload_n 1, 1, 0, 0, 0, [], none),
  (40, .iconst (-1), 1, 0, 0, 0, [], none),
  (41, .if_icmp .ne 7, 3, 0, 0, 0, [48], none),
  (44, .iload_n 2, 1, 0, 0, 0, [], none),
  (45, .goto 4, 3, 0, 0, 0, [49], none),
  (48, .iconst (-1), 1, 0, 0, 0, [], none),
  (49, .ireturn, 1, 0, 0, 0, [], none)]
set_option maxRecDepth 100000 in
theorem kX9_joiningAt : ab_def_ok mX9_joiningAt rX9_joiningAt := ⟨ab_mok_of 1583 108 1582 77 (by decide +kernel), [0, 0, 0, 0, 0, 0, 1232, 0, 0, 0, 1584, 0, 0, 0, 0, 0, 0, 0, 0, 0, 0, 0, 0, 0, 0, 0, 0, 0], by decide +kernel⟩
set_option maxRecDepth 100000 in
theorem vX9_joiningAt_0 {x : ab_Cx} {d mc ms : Nat} {Post : Option ab_V → List ab_Ob → Prop} (hx : ab_At x mX9_joiningAt d mc ms Post) (a1 : Int) (w0 : ab_Ob) (kc ks : Nat)
    (h : ab_J x 4 [some (ab_O 0), some (ab_I a1), some (ab_I 0), some (ab_I 0)] [] [w0] kc ks) :
    ab_J x 0 [some (ab_O 0), some (ab_I a1), none, none] [] [w0] kc ks := ab_go hx kX9_joiningAt.2 9 [(4, [true, true, true, true])] 0 h
set_option maxRecDepth 100000 in
theorem vX9_joiningAt_4 {x : ab_Cx} {d mc ms : Nat} {Post : Option ab_V → List ab_Ob → Prop} (hx : ab_At x mX9_joiningAt d mc ms Post) (l1 l2 l3 : Int) (w0 : ab_Ob) (kc ks : Nat)
    (h : (((w0.1 40) ≤ l3 → ((¬ l1 = (-1) → Post (some (ab_I (-1))) [w0]) ∧ (l1 = (-1) → Post (some (ab_I l2)) [w0]))) ∧ (¬ (w0.1 40) ≤ l3 → (∃ Q1 : Option ab_V → List ab_Ob → Prop, ab_Ct d 0 0 mX9_isJoining [ab_O 0, ab_I l3] [w0] Q1 ∧ (∀ r2 : Int, Q1 (some (ab_I r2)) [w0] → ((¬ r2 = 0 → ((¬ l2 = l1 → ((-2147483648 ≤ l2 + 1 ∧ l2 + 1 ≤ 2147483647) ∧ ((-2147483648 ≤ l3 + 1 ∧ l3 + 1 ≤ 2147483647) ∧ ab_J x 4 [some (ab_O 0), some (ab_I l1), some (ab_I (l2 + 1)), some (ab_I (l3 + 1))] [] [w0] kc ks))) ∧ (l2 = l1 → Post (some (ab_I l3)) [w0]))) ∧ (r2 = 0 → ((-2147483648 ≤ l3 + 1 ∧ l3 + 1 ≤ 2147483647) ∧ ab_J x 4 [some (ab_O 0), some (ab_I l1), some (ab_I l2), some (ab_I (l3 + 1))] [] [w0] kc ks)))))))) :
    ab_J x 4 [some (ab_O 0), some (ab_I l1), some (ab_I l2), some (ab_I l3)] [] [w0] kc ks := ab_go hx kX9_joiningAt.2 19 [(4, [true, true, true, true])] 4 h
def mX9_splitAt : ab_M := ((yX9_splitAt, cX9_splitAt, 2, (some .int)), ([9], [(0, 0)], [false], false, false, 0), (false, 9, 1))
def rX9_splitAt : List ab_R := [(0, .aload_n 0, 1, 0, 0, 0, [], none),
  (1, .getfield 36, 3, 9, 28, 0, [], none),
  (4, .aload_n 0, 1, 0, 0, 0, [], none),
  (5, .getfield 46, 3, 9, 31, 0, [], none),
  (8, .iload_n 1, 1, 0, 0, 0, [], none),
  (9, .iaload, 1, 0, 0, 0, [], none),
  (10, .aload_n 0, 1, 0, 0, 0, [], none),
  (11, .getfield 49, 3, 9, 32, 0, [], none),
  (14, .iload_n 1, 1, 0, 0, 0, [], none),
  (15, .iaload, 1, 0, 0, 0, [], none),
  (16, .aload_n 0, 1, 0, 0, 0, [], none),
  (17, .getfield 52, 3, 9, 33, 0, [], none),
  (20, .iload_n 1, 1, 0, 0, 0, [], none),
  (21, .iaload, 1, 0, 0, 0, [], none),
  (22, .invokestatic 289, 3, 0, 0, 0, [], some mX9_cube),
  (25, .iaload, 1, 0, 0, 0, [], none),
  (26, .ireturn, 1, 0, 0, 0, [], none)]
set_option maxRecDepth 100000 in
theorem kX9_splitAt : ab_def_ok mX9_splitAt rX9_splitAt := ⟨ab_mok_of 1595 108 1594 79 (by decide +kernel), [0, 1220, 0, 1223, 0, 0, 0, 1224, 0, 0, 0, 1225, 0, 0, 1470, 0, 0], by decide +kernel⟩
set_option maxRecDepth 100000 in
theorem vX9_splitAt_0 {x : ab_Cx} {d mc ms : Nat} {Post : Option ab_V → List ab_Ob → Prop} (hx : ab_At x mX9_splitAt d mc ms Post) (a1 : Int) (w0 : ab_Ob) (kc ks : Nat)
    (h : ((0 ≤ a1 ∧ a1 < (w0.2 31).1) ∧ ((0 ≤ a1 ∧ a1 < (w0.2 32).1) ∧ ((0 ≤ a1 ∧ a1 < (w0.2 33).1) ∧ (∃ Q1 : Option ab_V → List ab_Ob → Prop, ab_Ct d 0 0 mX9_cube [ab_I ((w0.2 31).2 a1), ab_I ((w0.2 32).2 a1), ab_I ((w0.2 33).2 a1)] [] Q1 ∧ (∀ r2 : Int, Q1 (some (ab_I r2)) [] → ((0 ≤ r2 ∧ r2 < (w0.2 28).1) ∧ Post (some (ab_I ((w0.2 28).2 r2))) [w0]))))))) :
    ab_J x 0 [some (ab_O 0), some (ab_I a1)] [] [w0] kc ks := ab_go hx kX9_splitAt.2 21 [] 0 h
def mX9_underAt : ab_M := ((yX9_underAt, cX9_underAt, 2, (some .int)), ([9], [(0, 0)], [false], false, false, 0), (false, 9, 1))
def rX9_underAt : List ab_R := [(0, .aload_n 0, 1, 0, 0, 0, [], none),
  (1, .getfield 39, 3, 9, 29, 0, [], none),
  (4, .aload_n 0, 1, 0, 0, 0, [], none),
  (5, .getfield 46, 3, 9, 31, 0, [], none),
  (8, .iload_n 1, 1, 0, 0, 0, [], none),
  (9, .iaload, 1, 0, 0, 0, [], none),
  (10, .aload_n 0, 1, 0, 0, 0, [], none),
  (11, .getfield 49, 3, 9, 32, 0, [], none),
  (14, .iload_n 1, 1, 0, 0, 0, [], none),
  (15, .iaload, 1, 0, 0, 0, [], none),
  (16, .aload_n 0, 1, 0, 0, 0, [], none),
  (17, .getfield 52, 3, 9, 33, 0, [], none),
  (20, .iload_n 1, 1, 0, 0, 0, [], none),
  (21, .iaload, 1, 0, 0, 0, [], none),
  (22, .invokestatic 289, 3, 0, 0, 0, [], some mX9_cube),
  (25, .iaload, 1, 0, 0, 0, [], none),
  (26, .ireturn, 1, 0, 0, 0, [], none)]
set_option maxRecDepth 100000 in
theorem kX9_underAt : ab_def_ok mX9_underAt rX9_underAt := ⟨ab_mok_of 1599 108 1598 80 (by decide +kernel), [0, 1221, 0, 1223, 0, 0, 0, 1224, 0, 0, 0, 1225, 0, 0, 1470, 0, 0], by decide +kernel⟩
set_option maxRecDepth 100000 in
theorem vX9_underAt_0 {x : ab_Cx} {d mc ms : Nat} {Post : Option ab_V → List ab_Ob → Prop} (hx : ab_At x mX9_underAt d mc ms Post) (a1 : Int) (w0 : ab_Ob) (kc ks : Nat)
    (h : ((0 ≤ a1 ∧ a1 < (w0.2 31).1) ∧ ((0 ≤ a1 ∧ a1 < (w0.2 32).1) ∧ ((0 ≤ a1 ∧ a1 < (w0.2 33).1) ∧ (∃ Q1 : Option ab_V → List ab_Ob → Prop, ab_Ct d 0 0 mX9_cube [ab_I ((w0.2 31).2 a1), ab_I ((w0.2 32).2 a1), ab_I ((w0.2 33).2 a1)] [] Q1 ∧ (∀ r2 : Int, Q1 (some (ab_I r2)) [] → ((0 ≤ r2 ∧ r2 < (w0.2 29).1) ∧ Post (some (ab_I ((w0.2 29).2 r2))) [w0]))))))) :
    ab_J x 0 [some (ab_O 0), some (ab_I a1)] [] [w0] kc ks := ab_go hx kX9_underAt.2 21 [] 0 h
def mX9_breaksAt : ab_M := ((yX9_breaksAt, cX9_breaksAt, 5, (some .int)), ([9], [(0, 0)], [false], false, false, 0), (false, 9, 2))
def rX9_breaksAt : List ab_R := [(0, .aload_n 0, 1, 0, 0, 0, [], none),
  (1, .iload_n 1, 1, 0, 0, 0, [], none),
  (2, .invokevirtual 334, 3, 0, 0, 0, [], some mX9_splitAt),
  (5, .aload_n 0, 1, 0, 0, 0, [], none),
  (6, .getfield 46, 3, 9, 31, 0, [], none),
  (9, .iload_n 1, 1, 0, 0, 0, [], none),
  (10, .iaload, 1, 0, 0, 0, [], none),
  (11, .isub, 1, 0, 0, 0, [], none),
  (12, .iconst 1, 1, 0, 0, 0, [], none),
  (13, .iadd, 1, 0, 0, 0, [], none),
  (14, .istore_n 3, 1, 0, 0, 0, [], none),
  (15, .aload_n 0, 1, 0, 0, 0, [], none),
  (16, .getfield 49, 3, 9, 32, 0, [], none),
  (19, .iload_n 1, 1, 0, 0, 0, [], none),
  (20, .iaload, 1, 0, 0, 0, [], none),
  (21, .aload_n 0, 1, 0, 0, 0, [], none),
  (22, .iload_n 1, 1, 0, 0, 0, [], none),
  (23, .invokevirtual 334, 3, 0, 0, 0, [], some mX9_splitAt),
  (26, .isub, 1, 0, 0, 0, [], none),
  (27, .istore 4, 2, 0, 0, 0, [], none),
  (29, .iload_n 2, 1, 0, 0, 0, [], none),
  (30, .iconst (-1), 1, 0, 0, 0, [], none),
  (31, .if_icmp .ne 24, 3, 0, 0, 0, [55], none),
  (34, .aload_n 0, 1, 0, 0, 0, [], none),
  (35, .aload_n 0, 1, 0, 0, 0, [], none),
  (36, .getfield 52, 3, 9, 33, 0, [], none),
  (39, .iload_n 1, 1, 0, 0, 0, [], none),
  (40, .iaload, 1, 0, 0, 0, [], none),
  (41, .aload_n 0, 1, 0, 0, 0, [], none),
  (42, .iload_n 1, 1, 0, 0, 0, [], none),
  (43, .invokevirtual 337, 3, 0, 0, 0, [], some mX9_underAt),
  (46, .iload_n 3, 1, 0, 0, 0, [], none),
  (47, .iload 4, 2, 0, 0, 0, [], none),
  (49, .invokevirtual 298, 3, 0, 0, 0, [], some mX9_brokenAll),
  (52, .goto 22, 3, 0, 0, 0, [74], none),
  (55, .aload_n 0, 1, 0, 0, 0, [], none),
  (56, .iload_n 2, 1, 0, 0, 0, [], none),
  (57, .aload_n 0, 1, 0, 0, 0, [], none),
  (58, .getfield 52, 3, 9, 33, 0, [], none),
  (61, .iload_n 1, 1, 0, 0, 0, [], none),
  (62, .iaload, 1, 0, 0, 0, [], none),
  (63, .aload_n 0, 1, 0, 0, 0, [], none),
  (64, .iload_n 1, 1, 0, 0, 0, [], none),
  (65, .invokevirtual 337, 3, 0, 0, 0, [], some mX9_underAt),
  (68, .iload_n 3, 1, 0, 0, 0, [], none),
  (69, .iload 4, 2, 0, 0, 0, [], none),
  (71, .invokevirtual 273, 3, 0, 0, 0, [], some mX9_brokenBy),
  (74, .ireturn, 1, 0, 0, 0, [], none)]
set_option maxRecDepth 100000 in
theorem kX9_breaksAt : ab_def_ok mX9_breaksAt rX9_breaksAt := ⟨ab_mok_of 1603 108 1602 81 (by decide +kernel), [0, 0, 1592, 0, 1223, 0, 0, 0, 0, 0, 0, 0, 1224, 0, 0, 0, 0, 1592, 0, 0, 0, 0, 0, 0, 0, 1225, 0, 0, 0, 0, 1596, 0, 0, 1482, 0, 0, 0, 0, 1225, 0, 0, 0, 0, 1596, 0, 0, 1486, 0], by decide +kernel⟩
set_option maxRecDepth 100000 in
theorem vX9_breaksAt_0 {x : ab_Cx} {d mc ms : Nat} {Post : Option ab_V → List ab_Ob → Prop} (hx : ab_At x mX9_breaksAt d mc ms Post) (a1 a2 : Int) (w0 : ab_Ob) (kc ks : Nat)
    (h : (∃ Q1 : Option ab_V → List ab_Ob → Prop, ab_Ct d 0 0 mX9_splitAt [ab_O 0, ab_I a1] [w0] Q1 ∧ (∀ r2 : Int, Q1 (some (ab_I r2)) [w0] → ((0 ≤ a1 ∧ a1 < (w0.2 31).1) ∧ ((-2147483648 ≤ r2 - ((w0.2 31).2 a1) ∧ r2 - ((w0.2 31).2 a1) ≤ 2147483647) ∧ ((-2147483648 ≤ (r2 - ((w0.2 31).2 a1)) + 1 ∧ (r2 - ((w0.2 31).2 a1)) + 1 ≤ 2147483647) ∧ ((0 ≤ a1 ∧ a1 < (w0.2 32).1) ∧ (∃ Q3 : Option ab_V → List ab_Ob → Prop, ab_Ct d 0 0 mX9_splitAt [ab_O 0, ab_I a1] [w0] Q3 ∧ (∀ r4 : Int, Q3 (some (ab_I r4)) [w0] → ((-2147483648 ≤ ((w0.2 32).2 a1) - r4 ∧ ((w0.2 32).2 a1) - r4 ≤ 2147483647) ∧ ((¬ a2 = (-1) → ((0 ≤ a1 ∧ a1 < (w0.2 33).1) ∧ (∃ Q5 : Option ab_V → List ab_Ob → Prop, ab_Ct d 0 0 mX9_underAt [ab_O 0, ab_I a1] [w0] Q5 ∧ (∀ r6 : Int, Q5 (some (ab_I r6)) [w0] → (∃ Q7 : Option ab_V → List ab_Ob → Prop, ab_Ct d 0 0 mX9_brokenBy [ab_O 0, ab_I a2, ab_I ((w0.2 33).2 a1), ab_I r6, ab_I ((r2 - ((w0.2 31).2 a1)) + 1), ab_I (((w0.2 32).2 a1) - r4)] [w0] Q7 ∧ (∀ r8 : Int, Q7 (some (ab_I r8)) [w0] → Post (some (ab_I r8)) [w0])))))) ∧ (a2 = (-1) → ((0 ≤ a1 ∧ a1 < (w0.2 33).1) ∧ (∃ Q9 : Option ab_V → List ab_Ob → Prop, ab_Ct d 0 0 mX9_underAt [ab_O 0, ab_I a1] [w0] Q9 ∧ (∀ r10 : Int, Q9 (some (ab_I r10)) [w0] → (∃ Q11 : Option ab_V → List ab_Ob → Prop, ab_Ct d 0 0 mX9_brokenAll [ab_O 0, ab_I ((w0.2 33).2 a1), ab_I r10, ab_I ((r2 - ((w0.2 31).2 a1)) + 1), ab_I (((w0.2 32).2 a1) - r4)] [w0] Q11 ∧ (∀ r12 : Int, Q11 (some (ab_I r12)) [w0] → Post (some (ab_I r12)) [w0]))))))))))))))))) :
    ab_J x 0 [some (ab_O 0), some (ab_I a1), some (ab_I a2), none, none] [] [w0] kc ks := ab_go hx kX9_breaksAt.2 40 [] 0 h
def mX9_joinings : ab_M := ((yX9_joinings, cX9_joinings, 1, (some .int)), ([9], [(0, 0)], [true], false, false, 0), (false, 9, 0))
def rX9_joinings : List ab_R := [(0, .aload_n 0, 1, 0, 0, 0, [], none),
  (1, .iconst 0, 1, 0, 0, 0, [], none),
  (2, .putfield 100, 3, 9, 0, 0, [], none),
  (5, .aload_n 0, 1, 0, 0, 0, [], none),
  (6, .getfield 235, 3, 9, 14, 0, [], none),
  (9, .ifCond .eq 15, 3, 0, 0, 0, [24], none),
  (12, .aload_n 0, 1, 0, 0, 0, [], none),
  (13, .aload_n 0, 1, 0, 0, 0, [], none),
  (14, .iconst (-1), 1, 0, 0, 0, [], none),
  (15, .invokevirtual 340, 3, 0, 0, 0, [], some mX9_joiningAt),
  (18, .invokevirtual 255, 3, 0, 0, 0, [], some mX9_good),
  (21, .goto 8, 3, 0, 0, 0, [29], none),
  (24, .aload_n 0, 1, 0, 0, 0, [], none),
  (25, .iconst 1, 1, 0, 0, 0, [], none),
  (26, .invokevirtual 229, 3, 0, 0, 0, [], some mX9_refused),
  (29, .ireturn, 1, 0, 0, 0, [], none)]
set_option maxRecDepth 100000 in
theorem kX9_joinings : ab_def_ok mX9_joinings rX9_joinings := ⟨ab_mok_of 1579 108 1577 1578 (by decide +kernel), [0, 0, 1192, 0, 1206, 0, 0, 0, 0, 1580, 1509, 0, 0, 0, 1361, 0], by decide +kernel⟩
set_option maxRecDepth 100000 in
theorem vX9_joinings_0 {x : ab_Cx} {d mc ms : Nat} {Post : Option ab_V → List ab_Ob → Prop} (hx : ab_At x mX9_joinings d mc ms Post) (w0 : ab_Ob) (kc ks : Nat)
    (h : (((w0.1 14) = 0 → (∃ Q1 : Option ab_V → List ab_Ob → Prop, ab_Ct d 0 0 mX9_refused [ab_O 0, ab_I 1] [(ab_pf w0 0 0)] Q1 ∧ (∀ r2 : Int, ∀ v3 : ab_Ob, Q1 (some (ab_I r2)) [v3] → Post (some (ab_I r2)) [v3]))) ∧ (¬ (w0.1 14) = 0 → (∃ Q4 : Option ab_V → List ab_Ob → Prop, ab_Ct d 0 0 mX9_joiningAt [ab_O 0, ab_I (-1)] [(ab_pf w0 0 0)] Q4 ∧ (∀ r5 : Int, Q4 (some (ab_I r5)) [(ab_pf w0 0 0)] → (∃ Q6 : Option ab_V → List ab_Ob → Prop, ab_Ct d 0 0 mX9_good [ab_O 0, ab_I r5] [(ab_pf w0 0 0)] Q6 ∧ (∀ r7 : Int, ∀ v8 : ab_Ob, Q6 (some (ab_I r7)) [v8] → Post (some (ab_I r7)) [v8]))))))) :
    ab_J x 0 [some (ab_O 0)] [] [w0] kc ks := ab_go hx kX9_joinings.2 17 [] 0 h
def mX9_joining : ab_M := ((yX9_joining, cX9_joining, 4, (some .int)), ([9], [(0, 0)], [true], false, false, 0), (false, 9, 2))
def rX9_joining : List ab_R := [(0, .aload_n 0, 1, 0, 0, 0, [], none),
  (1, .iconst 0, 1, 0, 0, 0, [], none),
  (2, .putfield 100, 3, 9, 0, 0, [], none),
  (5, .aload_n 0, 1, 0, 0, 0, [], none),
  (6, .getfield 235, 3, 9, 14, 0, [], none),
  (9, .ifCond .eq 7, 3, 0, 0, 0, [16], none),
  (12, .iload_n 1, 1, 0, 0, 0, [], none),
  (13, .ifCond .ge 9, 3, 0, 0, 0, [22], none),
  (16, .aload_n 0, 1, 0, 0, 0, [], none),
  (17, .iconst 1, 1, 0, 0, 0, [], none),
  (18, .invokevirtual 229, 3, 0, 0, 0, [], some mX9_refused),
  (21, .ireturn, 1, 0, 0, 0, [], none),
  (22, .aload_n 0, 1, 0, 0, 0, [], none),
  (23, .iload_n 1, 1, 0, 0, 0, [], none),
  (24, .invokevirtual 340, 3, 0, 0, 0, [], some mX9_joiningAt),
  (27, .istore_n 3, 1, 0, 0, 0, [], none),
  (28, .iload_n 3, 1, 0, 0, 0, [], none),
  (29, .iconst (-1), 1, 0, 0, 0, [], none),
  (30, .if_icmp .ne 9, 3, 0, 0, 0, [39], none),
  (33, .aload_n 0, 1, 0, 0, 0, [], none),
  (34, .iconst 1, 1, 0, 0, 0, [], none),
  (35, .invokevirtual 229, 3, 0, 0, 0, [], some mX9_refused),
  (38, .ireturn, 1, 0, 0, 0, [], none),
  (39, .iload_n 2, 1, 0, 0, 0, [], none),
  (40, .tableswitch 119 0 6 #[44, 55, 66, 76, 87, 97, 108], 44, 0, 0, 0, [159, 84, 95, 106, 116, 127, 137, 148], none),
  (84, .aload_n 0, 1, 0, 0, 0, [], none),
  (85, .aload_n 0, 1, 0, 0, 0, [], none),
  (86, .getfield 46, 3, 9, 31, 0, [], none),
  (89, .iload_n 3, 1, 0, 0, 0, [], none),
  (90, .iaload, 1, 0, 0, 0, [], none),
  (91, .invokevirtual 255, 3, 0, 0, 0, [], some mX9_good),
  (94, .ireturn, 1, 0, 0, 0, [], none),
  (95, .aload_n 0, 1, 0, 0, 0, [], none),
  (96, .aload_n 0, 1, 0, 0, 0, [], none),
  (97, .getfield 49, 3, 9, 32, 0, [], none),
  (100, .iload_n 3, 1, 0, 0, 0, [], none),
  (101, .iaload, 1, 0, 0, 0, [], none),
  (102, .invokevirtual 255, 3, 0, 0, 0, [], some mX9_good),
  (105, .ireturn, 1, 0, 0, 0, [], none),
  (106, .aload_n 0, 1, 0, 0, 0, [], none),
  (107, .aload_n 0, 1, 0, 0, 0, [], none),
  (108, .iload_n 3, 1, 0, 0, 0, [], none),
  (109, .invokevirtual 334, 3, 0, 0, 0, [], some mX9_splitAt),
  (112, .invokevirtual 255, 3, 0, 0, 0, [], some mX9_good),
  (115, .ireturn, 1, 0, 0, 0, [], none),
  (116, .aload_n 0, 1, 0, 0, 0, [], none),
  (117, .aload_n 0, 1, 0, 0, 0, [], none),
  (118, .getfield 52, 3, 9, 33, 0, [], none),
  (121, .iload_n 3, 1, 0, 0, 0, [], none),
  (122, .iaload, 1, 0, 0, 0, [], none),
  (123, .invokevirtual 255, 3, 0, 0, 0, [], some mX9_good),
  (126, .ireturn, 1, 0, 0, 0, [], none),
  (127, .aload_n 0, 1, 0, 0, 0, [], none),
  (128, .aload_n 0, 1, 0, 0, 0, [], none),
  (129, .iload_n 3, 1, 0, 0, 0, [], none),
  (130, .invokevirtual 337, 3, 0, 0, 0, [], some mX9_underAt),
  (133, .invokevirtual 255, 3, 0, 0, 0, [], some mX9_good),
  (136, .ireturn, 1, 0, 0, 0, [], none),
  (137, .aload_n 0, 1, 0, 0, 0, [], none),
  (138, .aload_n 0, 1, 0, 0, 0, [], none),
  (139, .iload_n 3, 1, 0, 0, 0, [], none),
  (140, .iconst (-1), 1, 0, 0, 0, [], none),
  (141, .invokevirtual 343, 3, 0, 0, 0, [], some mX9_breaksAt),
  (144, .invokevirtual 255, 3, 0, 0, 0, [], some mX9_good),
  (147, .ireturn, 1, 0, 0, 0, [], none),
  (148, .aload_n 0, 1, 0, 0, 0, [], none),
  (149, .aload_n 0, 1, 0, 0, 0, [], none),
  (150, .getfield 55, 3, 9, 34, 0, [], none),
  (153, .iload_n 3, 1, 0, 0, 0, [], none),
  (154, .iaload, 1, 0, 0, 0, [], none),
  (155, .invokevirtual 255, 3, 0, 0, 0, [], some mX9_good),
  (158, .ireturn, 1, 0, 0, 0, [], none),
  (159, .aload_n 0, 1, 0, 0, 0, [], none),
  (160, .iconst 1, 1, 0, 0, 0, [], none),
  (161, .invokevirtual 229, 3, 0, 0, 0, [], some mX9_refused),
  (164, .ireturn, 1, 0, 0, 0, [], none)]
set_option maxRecDepth 100000 in
theorem kX9_joining : ab_def_ok mX9_joining rX9_joining := ⟨ab_mok_of 1591 108 1589 1590 (by decide +kernel), [0, 0, 1192, 0, 1206, 0, 0, 0, 0, 0, 1361, 0, 0, 0, 1580, 0, 0, 0, 0, 0, 0, 1361, 0, 0, 0, 0, 0, 1223, 0, 0, 1509, 0, 0, 0, 1224, 0, 0, 1509, 0, 0, 0, 0, 1592, 1509, 0, 0, 0, 1225, 0, 0, 1509, 0, 0, 0, 0, 1596, 1509, 0, 0, 0, 0, 0, 1600, 1509, 0, 0, 0, 1226, 0, 0, 1509, 0, 0, 0, 1361, 0], by decide +kernel⟩
set_option maxRecDepth 100000 in
theorem vX9_joining_0 {x : ab_Cx} {d mc ms : Nat} {Post : Option ab_V → List ab_Ob → Prop} (hx : ab_At x mX9_joining d mc ms Post) (a1 a2 : Int) (w0 : ab_Ob) (kc ks : Nat)
    (h : (((w0.1 14) = 0 → (∃ Q1 : Option ab_V → List ab_Ob → Prop, ab_Ct d 0 0 mX9_refused [ab_O 0, ab_I 1] [(ab_pf w0 0 0)] Q1 ∧ (∀ r2 : Int, ∀ v3 : ab_Ob, Q1 (some (ab_I r2)) [v3] → Post (some (ab_I r2)) [v3]))) ∧ (¬ (w0.1 14) = 0 → ((0 ≤ a1 → (∃ Q4 : Option ab_V → List ab_Ob → Prop, ab_Ct d 0 0 mX9_joiningAt [ab_O 0, ab_I a1] [(ab_pf w0 0 0)] Q4 ∧ (∀ r5 : Int, Q4 (some (ab_I r5)) [(ab_pf w0 0 0)] → ((¬ r5 = (-1) → ((a2 < 0 ∨ 6 < a2 → (∃ Q33 : Option ab_V → List ab_Ob → Prop, ab_Ct d 0 0 mX9_refused [ab_O 0, ab_I 1] [(ab_pf w0 0 0)] Q33 ∧ (∀ r34 : Int, ∀ v35 : ab_Ob, Q33 (some (ab_I r34)) [v35] → Post (some (ab_I r34)) [v35]))) ∧ ((a2 = 0 → ((0 ≤ r5 ∧ r5 < (w0.2 31).1) ∧ (∃ Q30 : Option ab_V → List ab_Ob → Prop, ab_Ct d 0 0 mX9_good [ab_O 0, ab_I ((w0.2 31).2 r5)] [(ab_pf w0 0 0)] Q30 ∧ (∀ r31 : Int, ∀ v32 : ab_Ob, Q30 (some (ab_I r31)) [v32] → Post (some (ab_I r31)) [v32])))) ∧ ((a2 = 1 → ((0 ≤ r5 ∧ r5 < (w0.2 32).1) ∧ (∃ Q27 : Option ab_V → List ab_Ob → Prop, ab_Ct d 0 0 mX9_good [ab_O 0, ab_I ((w0.2 32).2 r5)] [(ab_pf w0 0 0)] Q27 ∧ (∀ r28 : Int, ∀ v29 : ab_Ob, Q27 (some (ab_I r28)) [v29] → Post (some (ab_I r28)) [v29])))) ∧ ((a2 = 2 → (∃ Q22 : Option ab_V → List ab_Ob → Prop, ab_Ct d 0 0 mX9_splitAt [ab_O 0, ab_I r5] [(ab_pf w0 0 0)] Q22 ∧ (∀ r23 : Int, Q22 (some (ab_I r23)) [(ab_pf w0 0 0)] → (∃ Q24 : Option ab_V → List ab_Ob → Prop, ab_Ct d 0 0 mX9_good [ab_O 0, ab_I r23] [(ab_pf w0 0 0)] Q24 ∧ (∀ r25 : Int, ∀ v26 : ab_Ob, Q24 (some (ab_I r25)) [v26] → Post (some (ab_I r25)) [v26]))))) ∧ ((a2 = 3 → ((0 ≤ r5 ∧ r5 < (w0.2 33).1) ∧ (∃ Q19 : Option ab_V → List ab_Ob → Prop, ab_Ct d 0 0 mX9_good [ab_O 0, ab_I ((w0.2 33).2 r5)] [(ab_pf w0 0 0)] Q19 ∧ (∀ r20 : Int, ∀ v21 : ab_Ob, Q19 (some (ab_I r20)) [v21] → Post (some (ab_I r20)) [v21])))) ∧ ((a2 = 4 → (∃ Q14 : Option ab_V → List ab_Ob → Prop, ab_Ct d 0 0 mX9_underAt [ab_O 0, ab_I r5] [(ab_pf w0 0 0)] Q14 ∧ (∀ r15 : Int, Q14 (some (ab_I r15)) [(ab_pf w0 0 0)] → (∃ Q16 : Option ab_V → List ab_Ob → Prop, ab_Ct d 0 0 mX9_good [ab_O 0, ab_I r15] [(ab_pf w0 0 0)] Q16 ∧ (∀ r17 : Int, ∀ v18 : ab_Ob, Q16 (some (ab_I r17)) [v18] → Post (some (ab_I r17)) [v18]))))) ∧ ((a2 = 5 → (∃ Q9 : Option ab_V → List ab_Ob → Prop, ab_Ct d 0 0 mX9_breaksAt [ab_O 0, ab_I r5, ab_I (-1)] [(ab_pf w0 0 0)] Q9 ∧ (∀ r10 : Int, Q9 (some (ab_I r10)) [(ab_pf w0 0 0)] → (∃ Q11 : Option ab_V → List ab_Ob → Prop, ab_Ct d 0 0 mX9_good [ab_O 0, ab_I r10] [(ab_pf w0 0 0)] Q11 ∧ (∀ r12 : Int, ∀ v13 : ab_Ob, Q11 (some (ab_I r12)) [v13] → Post (some (ab_I r12)) [v13]))))) ∧ ((a2 = 6 → ((0 ≤ r5 ∧ r5 < (w0.2 34).1) ∧ (∃ Q6 : Option ab_V → List ab_Ob → Prop, ab_Ct d 0 0 mX9_good [ab_O 0, ab_I ((w0.2 34).2 r5)] [(ab_pf w0 0 0)] Q6 ∧ (∀ r7 : Int, ∀ v8 : ab_Ob, Q6 (some (ab_I r7)) [v8] → Post (some (ab_I r7)) [v8])))) ∧ True))))))))) ∧ (r5 = (-1) → (∃ Q36 : Option ab_V → List ab_Ob → Prop, ab_Ct d 0 0 mX9_refused [ab_O 0, ab_I 1] [(ab_pf w0 0 0)] Q36 ∧ (∀ r37 : Int, ∀ v38 : ab_Ob, Q36 (some (ab_I r37)) [v38] → Post (some (ab_I r37)) [v38]))))))) ∧ (¬ 0 ≤ a1 → (∃ Q39 : Option ab_V → List ab_Ob → Prop, ab_Ct d 0 0 mX9_refused [ab_O 0, ab_I 1] [(ab_pf w0 0 0)] Q39 ∧ (∀ r40 : Int, ∀ v41 : ab_Ob, Q39 (some (ab_I r40)) [v41] → Post (some (ab_I r40)) [v41]))))))) :
    ab_J x 0 [some (ab_O 0), some (ab_I a1), some (ab_I a2), none] [] [w0] kc ks := ab_go hx kX9_joining.2 28 [] 0 h
def mX9_breaksOf : ab_M := ((yX9_breaksOf, cX9_breaksOf, 4, (some .int)), ([9], [(0, 0)], [true], false, false, 0), (false, 9, 1))
def rX9_breaksOf : List ab_R := [(0, .aload_n 0, 1, 0, 0, 0, [], none),
  (1, .iconst 0, 1, 0, 0, 0, [], none),
  (2, .putfield 100, 3, 9, 0, 0, [], none),
  (5, .aload_n 0, 1, 0, 0, 0, [], none),
  (6, .getfield 235, 3, 9, 14, 0, [], none),
  (9, .ifCond .eq 10, 3, 0, 0, 0, [19], none),
  (12, .iload_n 1, 1, 0, 0, 0, [], none),
  (13, .invokestatic 311, 3, 0, 0, 0, [], some mX9_isRule),
  (16, .ifCond .ne 9, 3, 0, 0, 0, [25], none),
  (19, .aload_n 0, 1, 0, 0, 0, [], none),
  (20, .iconst 1, 1, 0, 0, 0, [], none),
  (21, .invokevirtual 229, 3, 0, 0, 0, [], some mX9_refused),
  (24, .ireturn, 1, 0, 0, 0, [], none),
  (25, .iconst 0, 1, 0, 0, 0, [], none),
  (26, .istore_n 2, 1, 0, 0, 0, [], none),
  (27, .iconst 0, 1, 0, 0, 0, [], none),
  (28, .istore_n 3, 1, 0, 0, 0, [], none),
  (29, .iload_n 3, 1, 0, 0, 0, [], none),
  (30, .aload_n 0, 1, 0, 0, 0, [], none),
  (31, .getfield 324, 3, 9, 40, 0, [], none),
  (34, .if_icmp .ge 30, 3, 0, 0, 0, [64], none),
  (37, .iload_n 2, 1, 0, 0, 0, [], none),
  (38, .aload_n 0, 1, 0, 0, 0, [], none),
  (39, .iload_n 3, 1, 0, 0, 0, [], none),
  (40, .invokevirtual 331, 3, 0, 0, 0, [], some mX9_isJoining),
  (43, .ifCond .eq 12, 3, 0, 0, 0, [55], none),
  (46, .aload_n 0, 1, 0, 0, 0, [], none),
  (47, .iload_n 3, 1, 0, 0, 0, [], none),
  (48, .iload_n 1, 1, 0, 0, 0, [], none),
  (49, .invokevirtual 343, 3, 0, 0, 0, [], some mX9_breaksAt),
  (52, .goto 4, 3, 0, 0, 0, [56], none),
  (55, .iconst 0, 1, 0, 0, 0, [], none),
  (56, .iadd, 1, 0, 0, 0, [], none),
  (57, .istore_n 2, 1, 0, 0, 0, [], none),
  (58, .iinc 3 1, 3, 0, 0, 0, [], none),
  (61, .goto (-32), 3, 0, 0, 0, [29], none),
  (64, .aload_n 0, 1, 0, 0, 0, [], none),
  (65, .iload_n 2, 1, 0, 0, 0, [], none),
  (66, .invokevirtual 255, 3, 0, 0, 0, [], some mX9_good),
  (69, .ireturn, 1, 0, 0, 0, [], none)]
set_option maxRecDepth 100000 in
theorem kX9_breaksOf : ab_def_ok mX9_breaksOf rX9_breaksOf := ⟨ab_mok_of 1607 108 1605 1606 (by decide +kernel), [0, 0, 1192, 0, 1206, 0, 0, 1537, 0, 0, 0, 1361, 0, 0, 0, 0, 0, 0, 0, 1232, 0, 0, 0, 0, 1584, 0, 0, 0, 0, 1600, 0, 0, 0, 0, 0, 0, 0, 0, 1509, 0], by decide +kernel⟩
set_option maxRecDepth 100000 in
theorem vX9_breaksOf_0 {x : ab_Cx} {d mc ms : Nat} {Post : Option ab_V → List ab_Ob → Prop} (hx : ab_At x mX9_breaksOf d mc ms Post) (a1 : Int) (w0 : ab_Ob) (kc ks : Nat)
    (h : (((w0.1 14) = 0 → (∃ Q1 : Option ab_V → List ab_Ob → Prop, ab_Ct d 0 0 mX9_refused [ab_O 0, ab_I 1] [(ab_pf w0 0 0)] Q1 ∧ (∀ r2 : Int, ∀ v3 : ab_Ob, Q1 (some (ab_I r2)) [v3] → Post (some (ab_I r2)) [v3]))) ∧ (¬ (w0.1 14) = 0 → (∃ Q4 : Option ab_V → List ab_Ob → Prop, ab_Ct d 0 0 mX9_isRule [ab_I a1] [] Q4 ∧ (∀ r5 : Int, Q4 (some (ab_I r5)) [] → ((¬ r5 = 0 → ab_J x 29 [some (ab_O 0), some (ab_I a1), some (ab_I 0), some (ab_I 0)] [] [(ab_pf w0 0 0)] kc ks) ∧ (r5 = 0 → (∃ Q6 : Option ab_V → List ab_Ob → Prop, ab_Ct d 0 0 mX9_refused [ab_O 0, ab_I 1] [(ab_pf w0 0 0)] Q6 ∧ (∀ r7 : Int, ∀ v8 : ab_Ob, Q6 (some (ab_I r7)) [v8] → Post (some (ab_I r7)) [v8]))))))))) :
    ab_J x 0 [some (ab_O 0), some (ab_I a1), none, none] [] [w0] kc ks := ab_go hx kX9_breaksOf.2 18 [(29, [true, true, true, true])] 0 h
set_option maxRecDepth 100000 in
theorem vX9_breaksOf_29 {x : ab_Cx} {d mc ms : Nat} {Post : Option ab_V → List ab_Ob → Prop} (hx : ab_At x mX9_breaksOf d mc ms Post) (l1 l2 l3 : Int) (w0 : ab_Ob) (kc ks : Nat)
    (h : (((w0.1 40) ≤ l3 → (∃ Q1 : Option ab_V → List ab_Ob → Prop, ab_Ct d 0 0 mX9_good [ab_O 0, ab_I l2] [w0] Q1 ∧ (∀ r2 : Int, ∀ v3 : ab_Ob, Q1 (some (ab_I r2)) [v3] → Post (some (ab_I r2)) [v3]))) ∧ (¬ (w0.1 40) ≤ l3 → (∃ Q4 : Option ab_V → List ab_Ob → Prop, ab_Ct d 0 0 mX9_isJoining [ab_O 0, ab_I l3] [w0] Q4 ∧ (∀ r5 : Int, Q4 (some (ab_I r5)) [w0] → ((r5 = 0 → ((-2147483648 ≤ l2 + 0 ∧ l2 + 0 ≤ 2147483647) ∧ ((-2147483648 ≤ l3 + 1 ∧ l3 + 1 ≤ 2147483647) ∧ ab_J x 29 [some (ab_O 0), some (ab_I l1), some (ab_I (l2 + 0)), some (ab_I (l3 + 1))] [] [w0] kc ks))) ∧ (¬ r5 = 0 → (∃ Q6 : Option ab_V → List ab_Ob → Prop, ab_Ct d 0 0 mX9_breaksAt [ab_O 0, ab_I l3, ab_I l1] [w0] Q6 ∧ (∀ r7 : Int, Q6 (some (ab_I r7)) [w0] → ((-2147483648 ≤ l2 + r7 ∧ l2 + r7 ≤ 2147483647) ∧ ((-2147483648 ≤ l3 + 1 ∧ l3 + 1 ≤ 2147483647) ∧ ab_J x 29 [some (ab_O 0), some (ab_I l1), some (ab_I (l2 + r7)), some (ab_I (l3 + 1))] [] [w0] kc ks))))))))))) :
    ab_J x 29 [some (ab_O 0), some (ab_I l1), some (ab_I l2), some (ab_I l3)] [] [w0] kc ks := ab_go hx kX9_breaksOf.2 23 [(29, [true, true, true, true])] 29 h
def mX9_deep : ab_M := ((yX9_deep, cX9_deep, 3, (some .int)), ([9], [(0, 0)], [false], false, false, 0), (false, 9, 0))
def rX9_deep : List ab_R := [(0, .iconst 0, 1, 0, 0, 0, [], none),
  (1, .istore_n 1, 1, 0, 0, 0, [], none),
  (2, .iconst 0, 1, 0, 0, 0, [], none),
  (3, .istore_n 2, 1, 0, 0, 0, [], none),
  (4, .iload_n 2, 1, 0, 0, 0, [], none),
  (5, .aload_n 0, 1, 0, 0, 0, [], none),
  (6, .getfield 324, 3, 9, 40, 0, [], none),
  (9, .if_icmp .ge 26, 3, 0, 0, 0, [35], none),
  (12, .aload_n 0, 1, 0, 0, 0, [], none),
  (13, .getfield 55, 3, 9, 34, 0, [], none),
  (16, .iload_n 2, 1, 0, 0, 0, [], none),
  (17, .iaload, 1, 0, 0, 0, [], none),
  (18, .iload_n 1, 1, 0, 0, 0, [], none),
  (19, .if_icmp .le 10, 3, 0, 0, 0, [29], none),
  (22, .aload_n 0, 1, 0, 0, 0, [], none),
  (23, .getfield 55, 3, 9, 34, 0, [], none),
  (26, .iload_n 2, 1, 0, 0, 0, [], none),
  (27, .iaload, 1, 0, 0, 0, [], none),
  (28, .istore_n 1, 1, 0, 0, 0, [], none),
  (29, .iinc 2 1, 3, 0, 0, 0, [], none),
  (32, .goto (-28), 3, 0, 0, 0, [4], none),
  (35, .iload_n 1, 1, 0, 0, 0, [], none),
  (36, .ireturn, 1, 0, 0, 0, [], none)]
set_option maxRecDepth 100000 in
theorem kX9_deep : ab_def_ok mX9_deep rX9_deep := ⟨ab_mok_of 1615 108 1614 82 (by decide +kernel), [0, 0, 0, 0, 0, 0, 1232, 0, 0, 1226, 0, 0, 0, 0, 0, 1226, 0, 0, 0, 0, 0, 0, 0], by decide +kernel⟩
set_option maxRecDepth 100000 in
theorem vX9_deep_0 {x : ab_Cx} {d mc ms : Nat} {Post : Option ab_V → List ab_Ob → Prop} (hx : ab_At x mX9_deep d mc ms Post) (w0 : ab_Ob) (kc ks : Nat)
    (h : ab_J x 4 [some (ab_O 0), some (ab_I 0), some (ab_I 0)] [] [w0] kc ks) :
    ab_J x 0 [some (ab_O 0), none, none] [] [w0] kc ks := ab_go hx kX9_deep.2 9 [(4, [true, true, true])] 0 h
set_option maxRecDepth 100000 in
theorem vX9_deep_4 {x : ab_Cx} {d mc ms : Nat} {Post : Option ab_V → List ab_Ob → Prop} (hx : ab_At x mX9_deep d mc ms Post) (l1 l2 : Int) (w0 : ab_Ob) (kc ks : Nat)
    (h : (((w0.1 40) ≤ l2 → Post (some (ab_I l1)) [w0]) ∧ (¬ (w0.1 40) ≤ l2 → ((0 ≤ l2 ∧ l2 < (w0.2 34).1) ∧ ((((w0.2 34).2 l2) ≤ l1 → ((-2147483648 ≤ l2 + 1 ∧ l2 + 1 ≤ 2147483647) ∧ ab_J x 4 [some (ab_O 0), some (ab_I l1), some (ab_I (l2 + 1))] [] [w0] kc ks)) ∧ (¬ ((w0.2 34).2 l2) ≤ l1 → ((0 ≤ l2 ∧ l2 < (w0.2 34).1) ∧ ((-2147483648 ≤ l2 + 1 ∧ l2 + 1 ≤ 2147483647) ∧ ab_J x 4 [some (ab_O 0), some (ab_I ((w0.2 34).2 l2)), some (ab_I (l2 + 1))] [] [w0] kc ks)))))))) :
    ab_J x 4 [some (ab_O 0), some (ab_I l1), some (ab_I l2)] [] [w0] kc ks := ab_go hx kX9_deep.2 22 [(4, [true, true, true])] 4 h
def mX9_deepest : ab_M := ((yX9_deepest, cX9_deepest, 1, (some .int)), ([9], [(0, 0)], [true], false, false, 0), (false, 9, 0))
def rX9_deepest : List ab_R := [(0, .aload_n 0, 1, 0, 0, 0, [], none),
  (1, .iconst 0, 1, 0, 0, 0, [], none),
  (2, .putfield 100, 3, 9, 0, 0, [], none),
  (5, .aload_n 0, 1, 0, 0, 0, [], none),
  (6, .getfield 235, 3, 9, 14, 0, [], none),
  (9, .ifCond .eq 14, 3, 0, 0, 0, [23], none),
  (12, .aload_n 0, 1, 0, 0, 0, [], none),
  (13, .aload_n 0, 1, 0, 0, 0, [], none),
  (14, .invokevirtual 346, 3, 0, 0, 0, [], some mX9_deep),
  (17, .invokevirtual 255, 3, 0, 0, 0, [], some mX9_good),
  (20, .goto 8, 3, 0, 0, 0, [28], none),
  (23, .aload_n 0, 1, 0, 0, 0, [], none),
  (24, .iconst 1, 1, 0, 0, 0, [], none),
  (25, .invokevirtual 229, 3, 0, 0, 0, [], some mX9_refused),
  (28, .ireturn, 1, 0, 0, 0, [], none)]
set_option maxRecDepth 100000 in
theorem kX9_deepest : ab_def_ok mX9_deepest rX9_deepest := ⟨ab_mok_of 1611 108 1609 1610 (by decide +kernel), [0, 0, 1192, 0, 1206, 0, 0, 0, 1612, 1509, 0, 0, 0, 1361, 0], by decide +kernel⟩
set_option maxRecDepth 100000 in
theorem vX9_deepest_0 {x : ab_Cx} {d mc ms : Nat} {Post : Option ab_V → List ab_Ob → Prop} (hx : ab_At x mX9_deepest d mc ms Post) (w0 : ab_Ob) (kc ks : Nat)
    (h : (((w0.1 14) = 0 → (∃ Q1 : Option ab_V → List ab_Ob → Prop, ab_Ct d 0 0 mX9_refused [ab_O 0, ab_I 1] [(ab_pf w0 0 0)] Q1 ∧ (∀ r2 : Int, ∀ v3 : ab_Ob, Q1 (some (ab_I r2)) [v3] → Post (some (ab_I r2)) [v3]))) ∧ (¬ (w0.1 14) = 0 → (∃ Q4 : Option ab_V → List ab_Ob → Prop, ab_Ct d 0 0 mX9_deep [ab_O 0] [(ab_pf w0 0 0)] Q4 ∧ (∀ r5 : Int, Q4 (some (ab_I r5)) [(ab_pf w0 0 0)] → (∃ Q6 : Option ab_V → List ab_Ob → Prop, ab_Ct d 0 0 mX9_good [ab_O 0, ab_I r5] [(ab_pf w0 0 0)] Q6 ∧ (∀ r7 : Int, ∀ v8 : ab_Ob, Q6 (some (ab_I r7)) [v8] → Post (some (ab_I r7)) [v8]))))))) :
    ab_J x 0 [some (ab_O 0)] [] [w0] kc ks := ab_go hx kX9_deepest.2 16 [] 0 h
def mX9_isLevel : ab_M := ((yX9_isLevel, cX9_isLevel, 2, (some .boolean)), ([9], [(0, 0)], [false], false, false, 0), (false, 9, 1))
def rX9_isLevel : List ab_R := [(0, .iload_n 1, 1, 0, 0, 0, [], none),
  (1, .iconst 0, 1, 0, 0, 0, [], none),
  (2, .aload_n 0, 1, 0, 0, 0, [], none),
  (3, .invokevirtual 346, 3, 0, 0, 0, [], some mX9_deep),
  (6, .invokestatic 125, 3, 0, 0, 0, [], some mX9_in),
  (9, .ireturn, 1, 0, 0, 0, [], none)]
set_option maxRecDepth 100000 in
theorem kX9_isLevel : ab_def_ok mX9_isLevel rX9_isLevel := ⟨ab_mok_of 1623 108 1622 83 (by decide +kernel), [0, 0, 0, 1612, 1377, 0], by decide +kernel⟩
set_option maxRecDepth 100000 in
theorem vX9_isLevel_0 {x : ab_Cx} {d mc ms : Nat} {Post : Option ab_V → List ab_Ob → Prop} (hx : ab_At x mX9_isLevel d mc ms Post) (a1 : Int) (w0 : ab_Ob) (kc ks : Nat)
    (h : (∃ Q1 : Option ab_V → List ab_Ob → Prop, ab_Ct d 0 0 mX9_deep [ab_O 0] [w0] Q1 ∧ (∀ r2 : Int, Q1 (some (ab_I r2)) [w0] → (∃ Q3 : Option ab_V → List ab_Ob → Prop, ab_Ct d 0 0 mX9_in [ab_I a1, ab_I 0, ab_I r2] [] Q3 ∧ (∀ r4 : Int, Q3 (some (ab_I r4)) [] → ((r4 = 0 ∨ r4 = 1) ∧ Post (some (ab_I r4)) [w0])))))) :
    ab_J x 0 [some (ab_O 0), some (ab_I a1)] [] [w0] kc ks := ab_go hx kX9_isLevel.2 10 [] 0 h
def mX9_isAt : ab_M := ((yX9_isAt, cX9_isAt, 3, (some .boolean)), ([9], [(0, 0)], [false], false, false, 0), (false, 9, 2))
def rX9_isAt : List ab_R := [(0, .aload_n 0, 1, 0, 0, 0, [], none),
  (1, .getfield 55, 3, 9, 34, 0, [], none),
  (4, .iload_n 1, 1, 0, 0, 0, [], none),
  (5, .iaload, 1, 0, 0, 0, [], none),
  (6, .iload_n 2, 1, 0, 0, 0, [], none),
  (7, .if_icmp .eq 21, 3, 0, 0, 0, [28], none),
  (10, .aload_n 0, 1, 0, 0, 0, [], none),
  (11, .getfield 55, 3, 9, 34, 0, [], none),
  (14, .iload_n 1, 1, 0, 0, 0, [], none),
  (15, .iaload, 1, 0, 0, 0, [], none),
  (16, .iload_n 2, 1, 0, 0, 0, [], none),
  (17, .if_icmp .ge 15, 3, 0, 0, 0, [32], none),
  (20, .aload_n 0, 1, 0, 0, 0, [], none),
  (21, .iload_n 1, 1, 0, 0, 0, [], none),
  (22, .invokevirtual 331, 3, 0, 0, 0, [], some mX9_isJoining),
  (25, .ifCond .ne 7, 3, 0, 0, 0, [32], none),
  (28, .iconst 1, 1, 0, 0, 0, [], none),
  (29, .goto 4, 3, 0, 0, 0, [33], none),
  (32, .iconst 0, 1, 0, 0, 0, [], none),
  (33, .ireturn, 1, 0, 0, 0, [], none)]
set_option maxRecDepth 100000 in
theorem kX9_isAt : ab_def_ok mX9_isAt rX9_isAt := ⟨ab_mok_of 1631 108 1630 85 (by decide +kernel), [0, 1226, 0, 0, 0, 0, 0, 1226, 0, 0, 0, 0, 0, 0, 1584, 0, 0, 0, 0, 0], by decide +kernel⟩
set_option maxRecDepth 100000 in
theorem vX9_isAt_0 {x : ab_Cx} {d mc ms : Nat} {Post : Option ab_V → List ab_Ob → Prop} (hx : ab_At x mX9_isAt d mc ms Post) (a1 a2 : Int) (w0 : ab_Ob) (kc ks : Nat)
    (h : ((0 ≤ a1 ∧ a1 < (w0.2 34).1) ∧ ((((w0.2 34).2 a1) = a2 → (((1 : Int) = 0 ∨ (1 : Int) = 1) ∧ Post (some (ab_I 1)) [w0])) ∧ (¬ ((w0.2 34).2 a1) = a2 → ((0 ≤ a1 ∧ a1 < (w0.2 34).1) ∧ ((a2 ≤ ((w0.2 34).2 a1) → (((0 : Int) = 0 ∨ (0 : Int) = 1) ∧ Post (some (ab_I 0)) [w0])) ∧ (¬ a2 ≤ ((w0.2 34).2 a1) → (∃ Q1 : Option ab_V → List ab_Ob → Prop, ab_Ct d 0 0 mX9_isJoining [ab_O 0, ab_I a1] [w0] Q1 ∧ (∀ r2 : Int, Q1 (some (ab_I r2)) [w0] → ((¬ r2 = 0 → (((0 : Int) = 0 ∨ (0 : Int) = 1) ∧ Post (some (ab_I 0)) [w0])) ∧ (r2 = 0 → (((1 : Int) = 0 ∨ (1 : Int) = 1) ∧ Post (some (ab_I 1)) [w0])))))))))))) :
    ab_J x 0 [some (ab_O 0), some (ab_I a1), some (ab_I a2)] [] [w0] kc ks := ab_go hx kX9_isAt.2 23 [] 0 h
def mX9_levelAt : ab_M := ((yX9_levelAt, cX9_levelAt, 5, (some .int)), ([9], [(0, 0)], [false], false, false, 0), (false, 9, 2))
def rX9_levelAt : List ab_R := [(0, .iconst 0, 1, 0, 0, 0, [], none),
  (1, .istore_n 3, 1, 0, 0, 0, [], none),
  (2, .iconst 0, 1, 0, 0, 0, [], none),
  (3, .istore 4, 2, 0, 0, 0, [], none),
  (5, .iload 4, 2, 0, 0, 0, [], none),
  (7, .aload_n 0, 1, 0, 0, 0, [], none),
  (8, .getfield 324, 3, 9, 40, 0, [], none),
  (11, .if_icmp .ge 33, 3, 0, 0, 0, [44], none),
  (14, .aload_n 0, 1, 0, 0, 0, [], none),
  (15, .iload 4, 2, 0, 0, 0, [], none),
  (17, .iload_n 1, 1, 0, 0, 0, [], none),
  (18, .invokevirtual 349, 3, 0, 0, 0, [], some mX9_isAt),
  (21, .ifCond .ne 6, 3, 0, 0, 0, [27], none),
  (24, .goto 14, 3, 0, 0, 0, [38], none),
  (27, .iload_n 3, 1, 0, 0, 0, [], none),
  (28, .iload_n 2, 1, 0, 0, 0, [], none),
  (29, .if_icmp .ne 6, 3, 0, 0, 0, [35], none),
  (32, .iload 4, 2, 0, 0, 0, [], none),
  (34, .ireturn, 1, 0, 0, 0, [], none),
  (35, .iinc 3 1, 3, 0, 0, 0, [], none),
  (38, .iinc 4 1, 3, 0, 0, 0, [], none),
  (41, .goto (-36), 3, 0, 0, 0, [5], none),
  (44, .iload_n 2, 1, 0, 0, 0, [], none),
  (45, .iconst (-1), 1, 0, 0, 0, [], none),
  (46, .if_icmp .ne 7, 3, 0, 0, 0, [53], none),
  (49, .iload_n 3, 1, 0, 0, 0, [], none),
  (50, .goto 4, 3, 0, 0, 0, [54], none),
  (53, .iconst (-1), 1, 0, 0, 0, [], none),
  (54, .ireturn, 1, 0, 0, 0, [], none)]
set_option maxRecDepth 100000 in
theorem kX9_levelAt : ab_def_ok mX9_levelAt rX9_levelAt := ⟨ab_mok_of 1627 108 1626 84 (by decide +kernel), [0, 0, 0, 0, 0, 0, 1232, 0, 0, 0, 0, 1628, 0, 0, 0, 0, 0, 0, 0, 0, 0, 0, 0, 0, 0, 0, 0, 0, 0], by decide +kernel⟩
set_option maxRecDepth 100000 in
theorem vX9_levelAt_0 {x : ab_Cx} {d mc ms : Nat} {Post : Option ab_V → List ab_Ob → Prop} (hx : ab_At x mX9_levelAt d mc ms Post) (a1 a2 : Int) (w0 : ab_Ob) (kc ks : Nat)
    (h : ab_J x 5 [some (ab_O 0), some (ab_I a1), some (ab_I a2), some (ab_I 0), some (ab_I 0)] [] [w0] kc ks) :
    ab_J x 0 [some (ab_O 0), some (ab_I a1), some (ab_I a2), none, none] [] [w0] kc ks := ab_go hx kX9_levelAt.2 9 [(5, [true, true, true, true, true])] 0 h
set_option maxRecDepth 100000 in
theorem vX9_levelAt_5 {x : ab_Cx} {d mc ms : Nat} {Post : Option ab_V → List ab_Ob → Prop} (hx : ab_At x mX9_levelAt d mc ms Post) (l1 l2 l3 l4 : Int) (w0 : ab_Ob) (kc ks : Nat)
    (h : (((w0.1 40) ≤ l4 → ((¬ l2 = (-1) → Post (some (ab_I (-1))) [w0]) ∧ (l2 = (-1) → Post (some (ab_I l3)) [w0]))) ∧ (¬ (w0.1 40) ≤ l4 → (∃ Q1 : Option ab_V → List ab_Ob → Prop, ab_Ct d 0 0 mX9_isAt [ab_O 0, ab_I l4, ab_I l1] [w0] Q1 ∧ (∀ r2 : Int, Q1 (some (ab_I r2)) [w0] → ((¬ r2 = 0 → ((¬ l3 = l2 → ((-2147483648 ≤ l3 + 1 ∧ l3 + 1 ≤ 2147483647) ∧ ((-2147483648 ≤ l4 + 1 ∧ l4 + 1 ≤ 2147483647) ∧ ab_J x 5 [some (ab_O 0), some (ab_I l1), some (ab_I l2), some (ab_I (l3 + 1)), some (ab_I (l4 + 1))] [] [w0] kc ks))) ∧ (l3 = l2 → Post (some (ab_I l4)) [w0]))) ∧ (r2 = 0 → ((-2147483648 ≤ l4 + 1 ∧ l4 + 1 ≤ 2147483647) ∧ ab_J x 5 [some (ab_O 0), some (ab_I l1), some (ab_I l2), some (ab_I l3), some (ab_I (l4 + 1))] [] [w0] kc ks)))))))) :
    ab_J x 5 [some (ab_O 0), some (ab_I l1), some (ab_I l2), some (ab_I l3), some (ab_I l4)] [] [w0] kc ks := ab_go hx kX9_levelAt.2 20 [(5, [true, true, true, true, true])] 5 h
def mX9_level : ab_M := ((yX9_level, cX9_level, 2, (some .int)), ([9], [(0, 0)], [true], false, false, 0), (false, 9, 1))
def rX9_level : List ab_R := [(0, .aload_n 0, 1, 0, 0, 0, [], none),
  (1, .iconst 0, 1, 0, 0, 0, [], none),
  (2, .putfield 100, 3, 9, 0, 0, [], none),
  (5, .aload_n 0, 1, 0, 0, 0, [], none),
  (6, .getfield 235, 3, 9, 14, 0, [], none),
  (9, .ifCond .ne 9, 3, 0, 0, 0, [18], none),
  (12, .aload_n 0, 1, 0, 0, 0, [], none),
  (13, .iconst 1, 1, 0, 0, 0, [], none),
  (14, .invokevirtual 229, 3, 0, 0, 0, [], some mX9_refused),
  (17, .ireturn, 1, 0, 0, 0, [], none),
  (18, .aload_n 0, 1, 0, 0, 0, [], none),
  (19, .iload_n 1, 1, 0, 0, 0, [], none),
  (20, .invokevirtual 352, 3, 0, 0, 0, [], some mX9_isLevel),
  (23, .ifCond .eq 16, 3, 0, 0, 0, [39], none),
  (26, .aload_n 0, 1, 0, 0, 0, [], none),
  (27, .aload_n 0, 1, 0, 0, 0, [], none),
  (28, .iload_n 1, 1, 0, 0, 0, [], none),
  (29, .iconst (-1), 1, 0, 0, 0, [], none),
  (30, .invokevirtual 355, 3, 0, 0, 0, [], some mX9_levelAt),
  (33, .invokevirtual 255, 3, 0, 0, 0, [], some mX9_good),
  (36, .goto 8, 3, 0, 0, 0, [44], none),
  (39, .aload_n 0, 1, 0, 0, 0, [], none),
  (40, .iconst 2, 1, 0, 0, 0, [], none),
  (41, .invokevirtual 229, 3, 0, 0, 0, [], some mX9_refused),
  (44, .ireturn, 1, 0, 0, 0, [], none)]
set_option maxRecDepth 100000 in
theorem kX9_level : ab_def_ok mX9_level rX9_level := ⟨ab_mok_of 1619 108 1617 1618 (by decide +kernel), [0, 0, 1192, 0, 1206, 0, 0, 0, 1361, 0, 0, 0, 1620, 0, 0, 0, 0, 0, 1624, 1509, 0, 0, 0, 1361, 0], by decide +kernel⟩
set_option maxRecDepth 100000 in
theorem vX9_level_0 {x : ab_Cx} {d mc ms : Nat} {Post : Option ab_V → List ab_Ob → Prop} (hx : ab_At x mX9_level d mc ms Post) (a1 : Int) (w0 : ab_Ob) (kc ks : Nat)
    (h : ((¬ (w0.1 14) = 0 → (∃ Q1 : Option ab_V → List ab_Ob → Prop, ab_Ct d 0 0 mX9_isLevel [ab_O 0, ab_I a1] [(ab_pf w0 0 0)] Q1 ∧ (∀ r2 : Int, Q1 (some (ab_I r2)) [(ab_pf w0 0 0)] → ((r2 = 0 → (∃ Q3 : Option ab_V → List ab_Ob → Prop, ab_Ct d 0 0 mX9_refused [ab_O 0, ab_I 2] [(ab_pf w0 0 0)] Q3 ∧ (∀ r4 : Int, ∀ v5 : ab_Ob, Q3 (some (ab_I r4)) [v5] → Post (some (ab_I r4)) [v5]))) ∧ (¬ r2 = 0 → (∃ Q6 : Option ab_V → List ab_Ob → Prop, ab_Ct d 0 0 mX9_levelAt [ab_O 0, ab_I a1, ab_I (-1)] [(ab_pf w0 0 0)] Q6 ∧ (∀ r7 : Int, Q6 (some (ab_I r7)) [(ab_pf w0 0 0)] → (∃ Q8 : Option ab_V → List ab_Ob → Prop, ab_Ct d 0 0 mX9_good [ab_O 0, ab_I r7] [(ab_pf w0 0 0)] Q8 ∧ (∀ r9 : Int, ∀ v10 : ab_Ob, Q8 (some (ab_I r9)) [v10] → Post (some (ab_I r9)) [v10]))))))))) ∧ ((w0.1 14) = 0 → (∃ Q11 : Option ab_V → List ab_Ob → Prop, ab_Ct d 0 0 mX9_refused [ab_O 0, ab_I 1] [(ab_pf w0 0 0)] Q11 ∧ (∀ r12 : Int, ∀ v13 : ab_Ob, Q11 (some (ab_I r12)) [v13] → Post (some (ab_I r12)) [v13]))))) :
    ab_J x 0 [some (ab_O 0), some (ab_I a1)] [] [w0] kc ks := ab_go hx kX9_level.2 22 [] 0 h
