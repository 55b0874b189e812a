def mX2_countInside : ab_M := ((yX2_countInside, cX2_countInside, 9, (some .long)), ([2, 1], [(0, 0), (1, 0)], [false, false], false, false, 0), (false, 2, 4))
def rX2_countInside : List ab_R := [(0, .aload_n 1, 1, 0, 0, 0, [], none),
  (1, .iload_n 2, 1, 0, 0, 0, [], none),
  (2, .iload_n 3, 1, 0, 0, 0, [], none),
  (3, .iload 4, 2, 0, 0, 0, [], none),
  (5, .invokevirtual 34, 3, 0, 0, 0, [], some mX1_cell),
  (8, .istore 5, 2, 0, 0, 0, [], none),
  (10, .lconst 0, 1, 0, 0, 0, [], none),
  (11, .lstore 6, 2, 0, 0, 0, [], none),
  (13, .iload_n 2, 1, 0, 0, 0, [], none),
  (14, .istore 8, 2, 0, 0, 0, [], none),
  (16, .iload 8, 2, 0, 0, 0, [], none),
  (18, .iload_n 3, 1, 0, 0, 0, [], none),
  (19, .if_icmp .ge 60, 3, 0, 0, 0, [79], none),
  (22, .aload_n 1, 1, 0, 0, 0, [], none),
  (23, .iload_n 2, 1, 0, 0, 0, [], none),
  (24, .iload_n 3, 1, 0, 0, 0, [], none),
  (25, .iload 8, 2, 0, 0, 0, [], none),
  (27, .iload 4, 2, 0, 0, 0, [], none),
  (29, .invokevirtual 38, 3, 0, 0, 0, [], some mX1_splitAt),
  (32, .iload 5, 2, 0, 0, 0, [], none),
  (34, .if_icmp .ne 39, 3, 0, 0, 0, [73], none),
  (37, .lload 6, 2, 0, 0, 0, [], none),
  (39, .aload_n 0, 1, 0, 0, 0, [], none),
  (40, .getfield 7, 3, 2, 0, 0, [], none),
  (43, .iload_n 2, 1, 0, 0, 0, [], none),
  (44, .iload 8, 2, 0, 0, 0, [], none),
  (46, .invokestatic 23, 3, 0, 0, 0, [], some mX1_row),
  (49, .iload 4, 2, 0, 0, 0, [], none),
  (51, .iadd, 1, 0, 0, 0, [], none),
  (52, .laload, 1, 0, 0, 0, [], none),
  (53, .aload_n 0, 1, 0, 0, 0, [], none),
  (54, .getfield 7, 3, 2, 0, 0, [], none),
  (57, .iload 8, 2, 0, 0, 0, [], none),
  (59, .iconst 1, 1, 0, 0, 0, [], none),
  (60, .iadd, 1, 0, 0, 0, [], none),
  (61, .iload_n 3, 1, 0, 0, 0, [], none),
  (62, .invokestatic 23, 3, 0, 0, 0, [], some mX1_row),
  (65, .iload 4, 2, 0, 0, 0, [], none),
  (67, .iadd, 1, 0, 0, 0, [], none),
  (68, .laload, 1, 0, 0, 0, [], none),
  (69, .lmul, 1, 0, 0, 0, [], none),
  (70, .ladd, 1, 0, 0, 0, [], none),
  (71, .lstore 6, 2, 0, 0, 0, [], none),
  (73, .iinc 8 1, 3, 0, 0, 0, [], none),
  (76, .goto (-60), 3, 0, 0, 0, [16], none),
  (79, .lload 6, 2, 0, 0, 0, [], none),
  (81, .lreturn, 1, 0, 0, 0, [], none)]
set_option maxRecDepth 100000 in
theorem kX2_countInside : ab_def_ok mX2_countInside rX2_countInside := ⟨ab_mok_of 781 104 780 29 (by decide +kernel), [0, 0, 0, 0, 782, 0, 0, 0, 0, 0, 0, 0, 0, 0, 0, 0, 0, 0, 783, 0, 0, 0, 0, 280, 0, 0, 777, 0, 0, 0, 0, 280, 0, 0, 0, 0, 777, 0, 0, 0, 0, 0, 0, 0, 0, 0, 0], by decide +kernel⟩
set_option maxRecDepth 100000 in
theorem vX2_countInside_0 {x : ab_Cx} {d mc ms : Nat} {Post : Option ab_V → List ab_Ob → Prop} (hx : ab_At x mX2_countInside d mc ms Post) (a2 a3 a4 : Int) (w0 w1 : ab_Ob) (kc ks : Nat)
    (h : (∃ Q1 : Option ab_V → List ab_Ob → Prop, ab_Ct d 0 0 mX1_cell [ab_O 0, ab_I a2, ab_I a3, ab_I a4] [w1] Q1 ∧ (∀ r2 : Int, Q1 (some (ab_I r2)) [w1] → ab_J x 16 [some (ab_O 0), some (ab_O 1), some (ab_I a2), some (ab_I a3), some (ab_I a4), some (ab_I r2), some (ab_L 0), none, some (ab_I a2)] [] [w0, w1] kc ks))) :
    ab_J x 0 [some (ab_O 0), some (ab_O 1), some (ab_I a2), some (ab_I a3), some (ab_I a4), none, none, none, none] [] [w0, w1] kc ks := ab_go hx kX2_countInside.2 15 [(16, [true, true, true, true, true, true, true, false, true])] 0 h
set_option maxRecDepth 100000 in
theorem vX2_countInside_16 {x : ab_Cx} {d mc ms : Nat} {Post : Option ab_V → List ab_Ob → Prop} (hx : ab_At x mX2_countInside d mc ms Post) (l2 l3 l4 l5 l6 l8 : Int) (w0 w1 : ab_Ob) (kc ks : Nat)
    (h : ((l3 ≤ l8 → Post (some (ab_L l6)) [w0, w1]) ∧ (¬ l3 ≤ l8 → (∃ Q1 : Option ab_V → List ab_Ob → Prop, ab_Ct d 0 0 mX1_splitAt [ab_O 0, ab_I l2, ab_I l3, ab_I l8, ab_I l4] [w1] Q1 ∧ (∀ r2 : Int, Q1 (some (ab_I r2)) [w1] → ((¬ r2 = l5 → ((-2147483648 ≤ l8 + 1 ∧ l8 + 1 ≤ 2147483647) ∧ ab_J x 16 [some (ab_O 0), some (ab_O 1), some (ab_I l2), some (ab_I l3), some (ab_I l4), some (ab_I l5), some (ab_L l6), none, some (ab_I (l8 + 1))] [] [w0, w1] kc ks)) ∧ (r2 = l5 → (∃ Q3 : Option ab_V → List ab_Ob → Prop, ab_Ct d 0 0 mX1_row [ab_I l2, ab_I l8] [] Q3 ∧ (∀ r4 : Int, Q3 (some (ab_I r4)) [] → ((-2147483648 ≤ r4 + l4 ∧ r4 + l4 ≤ 2147483647) ∧ ((0 ≤ (r4 + l4) ∧ (r4 + l4) < (w0.2 0).1) ∧ ((-2147483648 ≤ l8 + 1 ∧ l8 + 1 ≤ 2147483647) ∧ (∃ Q5 : Option ab_V → List ab_Ob → Prop, ab_Ct d 0 0 mX1_row [ab_I (l8 + 1), ab_I l3] [] Q5 ∧ (∀ r6 : Int, Q5 (some (ab_I r6)) [] → ((-2147483648 ≤ r6 + l4 ∧ r6 + l4 ≤ 2147483647) ∧ ((0 ≤ (r6 + l4) ∧ (r6 + l4) < (w0.2 0).1) ∧ ((-9223372036854775808 ≤ ((w0.2 0).2 (r4 + l4)) * ((w0.2 0).2 (r6 + l4)) ∧ ((w0.2 0).2 (r4 + l4)) * ((w0.2 0).2 (r6 + l4)) ≤ 9223372036854775807) ∧ ((-9223372036854775808 ≤ l6 + (((w0.2 0).2 (r4 + l4)) * ((w0.2 0).2 (r6 + l4))) ∧ l6 + (((w0.2 0).2 (r4 + l4)) * ((w0.2 0).2 (r6 + l4))) ≤ 9223372036854775807) ∧ ((-2147483648 ≤ l8 + 1 ∧ l8 + 1 ≤ 2147483647) ∧ ab_J x 16 [some (ab_O 0), some (ab_O 1), some (ab_I l2), some (ab_I l3), some (ab_I l4), some (ab_I l5), some (ab_L (l6 + (((w0.2 0).2 (r4 + l4)) * ((w0.2 0).2 (r6 + l4))))), none, some (ab_I (l8 + 1))] [] [w0, w1] kc ks))))))))))))))))))) :
    ab_J x 16 [some (ab_O 0), some (ab_O 1), some (ab_I l2), some (ab_I l3), some (ab_I l4), some (ab_I l5), some (ab_L l6), none, some (ab_I l8)] [] [w0, w1] kc ks := ab_go hx kX2_countInside.2 40 [(16, [true, true, true, true, true, true, true, false, true])] 16 h
def mX2_countUnder : ab_M := ((yX2_countUnder, cX2_countUnder, 9, (some .long)), ([2, 1], [(0, 0), (1, 0)], [false, false], false, false, 0), (false, 2, 4))
def rX2_countUnder : List ab_R := [(0, .aload_n 1, 1, 0, 0, 0, [], none),
  (1, .iload_n 2, 1, 0, 0, 0, [], none),
  (2, .iload_n 3, 1, 0, 0, 0, [], none),
  (3, .iload 4, 2, 0, 0, 0, [], none),
  (5, .invokevirtual 34, 3, 0, 0, 0, [], some mX1_cell),
  (8, .istore 5, 2, 0, 0, 0, [], none),
  (10, .lconst 0, 1, 0, 0, 0, [], none),
  (11, .lstore 6, 2, 0, 0, 0, [], none),
  (13, .iload_n 2, 1, 0, 0, 0, [], none),
  (14, .istore 8, 2, 0, 0, 0, [], none),
  (16, .iload 8, 2, 0, 0, 0, [], none),
  (18, .iload_n 3, 1, 0, 0, 0, [], none),
  (19, .if_icmp .gt 42, 3, 0, 0, 0, [61], none),
  (22, .aload_n 1, 1, 0, 0, 0, [], none),
  (23, .iload_n 2, 1, 0, 0, 0, [], none),
  (24, .iload_n 3, 1, 0, 0, 0, [], none),
  (25, .iload 4, 2, 0, 0, 0, [], none),
  (27, .iload 8, 2, 0, 0, 0, [], none),
  (29, .invokevirtual 42, 3, 0, 0, 0, [], some mX1_underAt),
  (32, .iload 5, 2, 0, 0, 0, [], none),
  (34, .if_icmp .ne 21, 3, 0, 0, 0, [55], none),
  (37, .lload 6, 2, 0, 0, 0, [], none),
  (39, .aload_n 0, 1, 0, 0, 0, [], none),
  (40, .getfield 7, 3, 2, 0, 0, [], none),
  (43, .iload_n 2, 1, 0, 0, 0, [], none),
  (44, .iload_n 3, 1, 0, 0, 0, [], none),
  (45, .invokestatic 23, 3, 0, 0, 0, [], some mX1_row),
  (48, .iload 8, 2, 0, 0, 0, [], none),
  (50, .iadd, 1, 0, 0, 0, [], none),
  (51, .laload, 1, 0, 0, 0, [], none),
  (52, .ladd, 1, 0, 0, 0, [], none),
  (53, .lstore 6, 2, 0, 0, 0, [], none),
  (55, .iinc 8 1, 3, 0, 0, 0, [], none),
  (58, .goto (-42), 3, 0, 0, 0, [16], none),
  (61, .lload 6, 2, 0, 0, 0, [], none),
  (63, .lreturn, 1, 0, 0, 0, [], none)]
set_option maxRecDepth 100000 in
theorem kX2_countUnder : ab_def_ok mX2_countUnder rX2_countUnder := ⟨ab_mok_of 787 104 786 30 (by decide +kernel), [0, 0, 0, 0, 782, 0, 0, 0, 0, 0, 0, 0, 0, 0, 0, 0, 0, 0, 788, 0, 0, 0, 0, 280, 0, 0, 777, 0, 0, 0, 0, 0, 0, 0, 0, 0], by decide +kernel⟩
set_option maxRecDepth 100000 in
theorem vX2_countUnder_0 {x : ab_Cx} {d mc ms : Nat} {Post : Option ab_V → List ab_Ob → Prop} (hx : ab_At x mX2_countUnder d mc ms Post) (a2 a3 a4 : Int) (w0 w1 : ab_Ob) (kc ks : Nat)
    (h : (∃ Q1 : Option ab_V → List ab_Ob → Prop, ab_Ct d 0 0 mX1_cell [ab_O 0, ab_I a2, ab_I a3, ab_I a4] [w1] Q1 ∧ (∀ r2 : Int, Q1 (some (ab_I r2)) [w1] → ab_J x 16 [some (ab_O 0), some (ab_O 1), some (ab_I a2), some (ab_I a3), some (ab_I a4), some (ab_I r2), some (ab_L 0), none, some (ab_I a2)] [] [w0, w1] kc ks))) :
    ab_J x 0 [some (ab_O 0), some (ab_O 1), some (ab_I a2), some (ab_I a3), some (ab_I a4), none, none, none, none] [] [w0, w1] kc ks := ab_go hx kX2_countUnder.2 15 [(16, [true, true, true, true, true, true, true, false, true])] 0 h
set_option maxRecDepth 100000 in
theorem vX2_countUnder_16 {x : ab_Cx} {d mc ms : Nat} {Post : Option ab_V → List ab_Ob → Prop} (hx : ab_At x mX2_countUnder d mc ms Post) (l2 l3 l4 l5 l6 l8 : Int) (w0 w1 : ab_Ob) (kc ks : Nat)
    (h : ((l3 < l8 → Post (some (ab_L l6)) [w0, w1]) ∧ (¬ l3 < l8 → (∃ Q1 : Option ab_V → List ab_Ob → Prop, ab_Ct d 0 0 mX1_underAt [ab_O 0, ab_I l2, ab_I l3, ab_I l4, ab_I l8] [w1] Q1 ∧ (∀ r2 : Int, Q1 (some (ab_I r2)) [w1] → ((¬ r2 = l5 → ((-2147483648 ≤ l8 + 1 ∧ l8 + 1 ≤ 2147483647) ∧ ab_J x 16 [some (ab_O 0), some (ab_O 1), some (ab_I l2), some (ab_I l3), some (ab_I l4), some (ab_I l5), some (ab_L l6), none, some (ab_I (l8 + 1))] [] [w0, w1] kc ks)) ∧ (r2 = l5 → (∃ Q3 : Option ab_V → List ab_Ob → Prop, ab_Ct d 0 0 mX1_row [ab_I l2, ab_I l3] [] Q3 ∧ (∀ r4 : Int, Q3 (some (ab_I r4)) [] → ((-2147483648 ≤ r4 + l8 ∧ r4 + l8 ≤ 2147483647) ∧ ((0 ≤ (r4 + l8) ∧ (r4 + l8) < (w0.2 0).1) ∧ ((-9223372036854775808 ≤ l6 + ((w0.2 0).2 (r4 + l8)) ∧ l6 + ((w0.2 0).2 (r4 + l8)) ≤ 9223372036854775807) ∧ ((-2147483648 ≤ l8 + 1 ∧ l8 + 1 ≤ 2147483647) ∧ ab_J x 16 [some (ab_O 0), some (ab_O 1), some (ab_I l2), some (ab_I l3), some (ab_I l4), some (ab_I l5), some (ab_L (l6 + ((w0.2 0).2 (r4 + l8)))), none, some (ab_I (l8 + 1))] [] [w0, w1] kc ks))))))))))))) :
    ab_J x 16 [some (ab_O 0), some (ab_O 1), some (ab_I l2), some (ab_I l3), some (ab_I l4), some (ab_I l5), some (ab_L l6), none, some (ab_I l8)] [] [w0, w1] kc ks := ab_go hx kX2_countUnder.2 29 [(16, [true, true, true, true, true, true, true, false, true])] 16 h
def mX2_fillSpan : ab_M := ((yX2_fillSpan, cX2_fillSpan, 6, none), ([2, 1], [(0, 0), (1, 0)], [true, false], false, false, 0), (false, 2, 3))
def rX2_fillSpan : List ab_R := [(0, .iload_n 2, 1, 0, 0, 0, [], none),
  (1, .iload_n 3, 1, 0, 0, 0, [], none),
  (2, .invokestatic 23, 3, 0, 0, 0, [], some mX1_row),
  (5, .istore 4, 2, 0, 0, 0, [], none),
  (7, .iload_n 2, 1, 0, 0, 0, [], none),
  (8, .istore 5, 2, 0, 0, 0, [], none),
  (10, .iload 5, 2, 0, 0, 0, [], none),
  (12, .iload_n 3, 1, 0, 0, 0, [], none),
  (13, .if_icmp .gt 37, 3, 0, 0, 0, [50], none),
  (16, .aload_n 0, 1, 0, 0, 0, [], none),
  (17, .getfield 7, 3, 2, 0, 0, [], none),
  (20, .iload 4, 2, 0, 0, 0, [], none),
  (22, .iload 5, 2, 0, 0, 0, [], none),
  (24, .iadd, 1, 0, 0, 0, [], none),
  (25, .iload_n 2, 1, 0, 0, 0, [], none),
  (26, .iload_n 3, 1, 0, 0, 0, [], none),
  (27, .if_icmp .ne 7, 3, 0, 0, 0, [34], none),
  (30, .lconst 1, 1, 0, 0, 0, [], none),
  (31, .goto 12, 3, 0, 0, 0, [43], none),
  (34, .aload_n 0, 1, 0, 0, 0, [], none),
  (35, .aload_n 1, 1, 0, 0, 0, [], none),
  (36, .iload_n 2, 1, 0, 0, 0, [], none),
  (37, .iload_n 3, 1, 0, 0, 0, [], none),
  (38, .iload 5, 2, 0, 0, 0, [], none),
  (40, .invokevirtual 27, 3, 0, 0, 0, [], some mX2_countInside),
  (43, .lastore, 1, 0, 0, 0, [], none),
  (44, .iinc 5 1, 3, 0, 0, 0, [], none),
  (47, .goto (-37), 3, 0, 0, 0, [10], none),
  (50, .iconst 0, 1, 0, 0, 0, [], none),
  (51, .istore 5, 2, 0, 0, 0, [], none),
  (53, .iload 5, 2, 0, 0, 0, [], none),
  (55, .aload_n 1, 1, 0, 0, 0, [], none),
  (56, .getfield 15, 3, 1, 0, 0, [], none),
  (59, .if_icmp .ge 40, 3, 0, 0, 0, [99], none),
  (62, .iload 5, 2, 0, 0, 0, [], none),
  (64, .iload_n 2, 1, 0, 0, 0, [], none),
  (65, .if_icmp .lt 9, 3, 0, 0, 0, [74], none),
  (68, .iload 5, 2, 0, 0, 0, [], none),
  (70, .iload_n 3, 1, 0, 0, 0, [], none),
  (71, .if_icmp .le 22, 3, 0, 0, 0, [93], none),
  (74, .aload_n 0, 1, 0, 0, 0, [], none),
  (75, .getfield 7, 3, 2, 0, 0, [], none),
  (78, .iload 4, 2, 0, 0, 0, [], none),
  (80, .iload 5, 2, 0, 0, 0, [], none),
  (82, .iadd, 1, 0, 0, 0, [], none),
  (83, .aload_n 0, 1, 0, 0, 0, [], none),
  (84, .aload_n 1, 1, 0, 0, 0, [], none),
  (85, .iload_n 2, 1, 0, 0, 0, [], none),
  (86, .iload_n 3, 1, 0, 0, 0, [], none),
  (87, .iload 5, 2, 0, 0, 0, [], none),
  (89, .invokevirtual 31, 3, 0, 0, 0, [], some mX2_countUnder),
  (92, .lastore, 1, 0, 0, 0, [], none),
  (93, .iinc 5 1, 3, 0, 0, 0, [], none),
  (96, .goto (-43), 3, 0, 0, 0, [53], none),
  (99, .return_, 1, 0, 0, 0, [], none)]
set_option maxRecDepth 100000 in
theorem kX2_fillSpan : ab_def_ok mX2_fillSpan rX2_fillSpan := ⟨ab_mok_of 776 104 775 28 (by decide +kernel), [0, 0, 777, 0, 0, 0, 0, 0, 0, 0, 280, 0, 0, 0, 0, 0, 0, 0, 0, 0, 0, 0, 0, 0, 778, 0, 0, 0, 0, 0, 0, 0, 261, 0, 0, 0, 0, 0, 0, 0, 0, 280, 0, 0, 0, 0, 0, 0, 0, 0, 784, 0, 0, 0, 0], by decide +kernel⟩
set_option maxRecDepth 100000 in
theorem vX2_fillSpan_0 {x : ab_Cx} {d mc ms : Nat} {Post : Option ab_V → List ab_Ob → Prop} (hx : ab_At x mX2_fillSpan d mc ms Post) (a2 a3 : Int) (w0 w1 : ab_Ob) (kc ks : Nat)
    (h : (∃ Q1 : Option ab_V → List ab_Ob → Prop, ab_Ct d 0 0 mX1_row [ab_I a2, ab_I a3] [] Q1 ∧ (∀ r2 : Int, Q1 (some (ab_I r2)) [] → ab_J x 10 [some (ab_O 0), some (ab_O 1), some (ab_I a2), some (ab_I a3), some (ab_I r2), some (ab_I a2)] [] [w0, w1] kc ks))) :
    ab_J x 0 [some (ab_O 0), some (ab_O 1), some (ab_I a2), some (ab_I a3), none, none] [] [w0, w1] kc ks := ab_go hx kX2_fillSpan.2 11 [(10, [true, true, true, true, true, true]), (53, [true, true, true, true, true, true])] 0 h
set_option maxRecDepth 100000 in
theorem vX2_fillSpan_10 {x : ab_Cx} {d mc ms : Nat} {Post : Option ab_V → List ab_Ob → Prop} (hx : ab_At x mX2_fillSpan d mc ms Post) (l2 l3 l4 l5 : Int) (w0 w1 : ab_Ob) (kc ks : Nat)
    (h : ((l3 < l5 → ab_J x 53 [some (ab_O 0), some (ab_O 1), some (ab_I l2), some (ab_I l3), some (ab_I l4), some (ab_I 0)] [] [w0, w1] kc ks) ∧ (¬ l3 < l5 → ((-2147483648 ≤ l4 + l5 ∧ l4 + l5 ≤ 2147483647) ∧ ((¬ l2 = l3 → (∃ Q1 : Option ab_V → List ab_Ob → Prop, ab_Ct d 0 0 mX2_countInside [ab_O 0, ab_O 1, ab_I l2, ab_I l3, ab_I l5] [w0, w1] Q1 ∧ (∀ r2 : Int, Q1 (some (ab_L r2)) [w0, w1] → ((0 ≤ (l4 + l5) ∧ (l4 + l5) < (w0.2 0).1) ∧ ((-2147483648 ≤ l5 + 1 ∧ l5 + 1 ≤ 2147483647) ∧ ab_J x 10 [some (ab_O 0), some (ab_O 1), some (ab_I l2), some (ab_I l3), some (ab_I l4), some (ab_I (l5 + 1))] [] [(ab_pa w0 0 (l4 + l5) r2), w1] kc ks))))) ∧ (l2 = l3 → ((0 ≤ (l4 + l5) ∧ (l4 + l5) < (w0.2 0).1) ∧ ((-2147483648 ≤ l5 + 1 ∧ l5 + 1 ≤ 2147483647) ∧ ab_J x 10 [some (ab_O 0), some (ab_O 1), some (ab_I l2), some (ab_I l3), some (ab_I l4), some (ab_I (l5 + 1))] [] [(ab_pa w0 0 (l4 + l5) 1), w1] kc ks)))))))) :
    ab_J x 10 [some (ab_O 0), some (ab_O 1), some (ab_I l2), some (ab_I l3), some (ab_I l4), some (ab_I l5)] [] [w0, w1] kc ks := ab_go hx kX2_fillSpan.2 25 [(10, [true, true, true, true, true, true]), (53, [true, true, true, true, true, true])] 10 h
set_option maxRecDepth 100000 in
theorem vX2_fillSpan_53 {x : ab_Cx} {d mc ms : Nat} {Post : Option ab_V → List ab_Ob → Prop} (hx : ab_At x mX2_fillSpan d mc ms Post) (l2 l3 l4 l5 : Int) (w0 w1 : ab_Ob) (kc ks : Nat)
    (h : (((w1.1 0) ≤ l5 → Post none [w0, w1]) ∧ (¬ (w1.1 0) ≤ l5 → ((l5 < l2 → ((-2147483648 ≤ l4 + l5 ∧ l4 + l5 ≤ 2147483647) ∧ (∃ Q1 : Option ab_V → List ab_Ob → Prop, ab_Ct d 0 0 mX2_countUnder [ab_O 0, ab_O 1, ab_I l2, ab_I l3, ab_I l5] [w0, w1] Q1 ∧ (∀ r2 : Int, Q1 (some (ab_L r2)) [w0, w1] → ((0 ≤ (l4 + l5) ∧ (l4 + l5) < (w0.2 0).1) ∧ ((-2147483648 ≤ l5 + 1 ∧ l5 + 1 ≤ 2147483647) ∧ ab_J x 53 [some (ab_O 0), some (ab_O 1), some (ab_I l2), some (ab_I l3), some (ab_I l4), some (ab_I (l5 + 1))] [] [(ab_pa w0 0 (l4 + l5) r2), w1] kc ks)))))) ∧ (¬ l5 < l2 → ((l5 ≤ l3 → ((-2147483648 ≤ l5 + 1 ∧ l5 + 1 ≤ 2147483647) ∧ ab_J x 53 [some (ab_O 0), some (ab_O 1), some (ab_I l2), some (ab_I l3), some (ab_I l4), some (ab_I (l5 + 1))] [] [w0, w1] kc ks)) ∧ (¬ l5 ≤ l3 → ((-2147483648 ≤ l4 + l5 ∧ l4 + l5 ≤ 2147483647) ∧ (∃ Q3 : Option ab_V → List ab_Ob → Prop, ab_Ct d 0 0 mX2_countUnder [ab_O 0, ab_O 1, ab_I l2, ab_I l3, ab_I l5] [w0, w1] Q3 ∧ (∀ r4 : Int, Q3 (some (ab_L r4)) [w0, w1] → ((0 ≤ (l4 + l5) ∧ (l4 + l5) < (w0.2 0).1) ∧ ((-2147483648 ≤ l5 + 1 ∧ l5 + 1 ≤ 2147483647) ∧ ab_J x 53 [some (ab_O 0), some (ab_O 1), some (ab_I l2), some (ab_I l3), some (ab_I l4), some (ab_I (l5 + 1))] [] [(ab_pa w0 0 (l4 + l5) r4), w1] kc ks)))))))))))) :
    ab_J x 53 [some (ab_O 0), some (ab_O 1), some (ab_I l2), some (ab_I l3), some (ab_I l4), some (ab_I l5)] [] [w0, w1] kc ks := ab_go hx kX2_fillSpan.2 29 [(10, [true, true, true, true, true, true]), (53, [true, true, true, true, true, true])] 53 h
def mX2_fill : ab_M := ((yX2_fill, cX2_fill, 4, none), ([2, 1], [(0, 0), (1, 0)], [true, false], true, true, 0), (false, 2, 1))
def rX2_fill : List ab_R := [(0, .aload_n 0, 1, 0, 0, 0, [], none),
  (1, .getfield 7, 3, 2, 0, 0, [], none),
  (4, .arraylength, 1, 0, 0, 0, [], none),
  (5, .sipush 7200, 3, 0, 0, 0, [], none),
  (8, .if_icmp .ge 12, 3, 0, 0, 0, [20], none),
  (11, .aload_n 0, 1, 0, 0, 0, [], none),
  (12, .sipush 7200, 3, 0, 0, 0, [], none),
  (15, .newarray .long, 2, 0, 0, 0, [], none),
  (17, .putfield 7, 3, 2, 0, 0, [], none),
  (20, .iconst 1, 1, 0, 0, 0, [], none),
  (21, .istore_n 2, 1, 0, 0, 0, [], none),
  (22, .iload_n 2, 1, 0, 0, 0, [], none),
  (23, .aload_n 1, 1, 0, 0, 0, [], none),
  (24, .getfield 15, 3, 1, 0, 0, [], none),
  (27, .if_icmp .gt 38, 3, 0, 0, 0, [65], none),
  (30, .iconst 0, 1, 0, 0, 0, [], none),
  (31, .istore_n 3, 1, 0, 0, 0, [], none),
  (32, .iload_n 3, 1, 0, 0, 0, [], none),
  (33, .iload_n 2, 1, 0, 0, 0, [], none),
  (34, .iadd, 1, 0, 0, 0, [], none),
  (35, .aload_n 1, 1, 0, 0, 0, [], none),
  (36, .getfield 15, 3, 1, 0, 0, [], none),
  (39, .if_icmp .gt 20, 3, 0, 0, 0, [59], none),
  (42, .aload_n 0, 1, 0, 0, 0, [], none),
  (43, .aload_n 1, 1, 0, 0, 0, [], none),
  (44, .iload_n 3, 1, 0, 0, 0, [], none),
  (45, .iload_n 3, 1, 0, 0, 0, [], none),
  (46, .iload_n 2, 1, 0, 0, 0, [], none),
  (47, .iadd, 1, 0, 0, 0, [], none),
  (48, .iconst 1, 1, 0, 0, 0, [], none),
  (49, .isub, 1, 0, 0, 0, [], none),
  (50, .invokevirtual 19, 3, 0, 0, 0, [], some mX2_fillSpan),
  (53, .iinc 3 1, 3, 0, 0, 0, [], none),
  (56, .goto (-24), 3, 0, 0, 0, [32], none),
  (59, .iinc 2 1, 3, 0, 0, 0, [], none),
  (62, .goto (-40), 3, 0, 0, 0, [22], none),
  (65, .return_, 1, 0, 0, 0, [], none)]
set_option maxRecDepth 100000 in
theorem kX2_fill : ab_def_ok mX2_fill rX2_fill := ⟨ab_mok_of 772 104 770 771 (by decide +kernel), [0, 280, 0, 0, 0, 0, 0, 284, 280, 0, 0, 0, 0, 261, 0, 0, 0, 0, 0, 0, 0, 261, 0, 0, 0, 0, 0, 0, 0, 0, 0, 773, 0, 0, 0, 0, 0], by decide +kernel⟩
set_option maxRecDepth 100000 in
theorem vX2_fill_0 {x : ab_Cx} {d mc ms : Nat} {Post : Option ab_V → List ab_Ob → Prop} (hx : ab_At x mX2_fill d mc ms Post) (w0 w1 : ab_Ob) (kc ks : Nat)
    (h : ((7200 ≤ ((w0.2 0).1) → ab_J x 22 [some (ab_O 0), some (ab_O 1), some (ab_I 1), none] [] [w0, w1] kc ks) ∧ (¬ 7200 ≤ ((w0.2 0).1) → ((0 ≤ (7200 : Int) ∧ (7200 : Int) ≤ 100000) ∧ (kc + 1 ≤ mc ∧ ks + Int.toNat 7200 ≤ ms) ∧ ab_J x 22 [some (ab_O 0), some (ab_O 1), some (ab_I 1), none] [] [(ab_pn w0 0 7200), w1] (kc + 1) (ks + Int.toNat 7200))))) :
    ab_J x 0 [some (ab_O 0), some (ab_O 1), none, none] [] [w0, w1] kc ks := ab_go hx kX2_fill.2 16 [(22, [true, true, true, false]), (32, [true, true, true, true])] 0 h
set_option maxRecDepth 100000 in
theorem vX2_fill_22 {x : ab_Cx} {d mc ms : Nat} {Post : Option ab_V → List ab_Ob → Prop} (hx : ab_At x mX2_fill d mc ms Post) (l2 : Int) (w0 w1 : ab_Ob) (kc ks : Nat)
    (h : (((w1.1 0) < l2 → Post none [w0, w1]) ∧ (¬ (w1.1 0) < l2 → ab_J x 32 [some (ab_O 0), some (ab_O 1), some (ab_I l2), some (ab_I 0)] [] [w0, w1] kc ks))) :
    ab_J x 22 [some (ab_O 0), some (ab_O 1), some (ab_I l2), none] [] [w0, w1] kc ks := ab_go hx kX2_fill.2 11 [(22, [true, true, true, false]), (32, [true, true, true, true])] 22 h
set_option maxRecDepth 100000 in
theorem vX2_fill_32 {x : ab_Cx} {d mc ms : Nat} {Post : Option ab_V → List ab_Ob → Prop} (hx : ab_At x mX2_fill d mc ms Post) (l2 l3 : Int) (w0 w1 : ab_Ob) (kc ks : Nat)
    (h : ((-2147483648 ≤ l3 + l2 ∧ l3 + l2 ≤ 2147483647) ∧ (((w1.1 0) < (l3 + l2) → ((-2147483648 ≤ l2 + 1 ∧ l2 + 1 ≤ 2147483647) ∧ ab_J x 22 [some (ab_O 0), some (ab_O 1), some (ab_I (l2 + 1)), none] [] [w0, w1] kc ks)) ∧ (¬ (w1.1 0) < (l3 + l2) → ((-2147483648 ≤ l3 + l2 ∧ l3 + l2 ≤ 2147483647) ∧ ((-2147483648 ≤ (l3 + l2) - 1 ∧ (l3 + l2) - 1 ≤ 2147483647) ∧ (∃ Q1 : Option ab_V → List ab_Ob → Prop, ab_Ct d 0 0 mX2_fillSpan [ab_O 0, ab_O 1, ab_I l3, ab_I ((l3 + l2) - 1)] [w0, w1] Q1 ∧ (∀ v2 : ab_Ob, Q1 none [v2, w1] → ((-2147483648 ≤ l3 + 1 ∧ l3 + 1 ≤ 2147483647) ∧ ab_J x 32 [some (ab_O 0), some (ab_O 1), some (ab_I l2), some (ab_I (l3 + 1))] [] [v2, w1] kc ks))))))))) :
    ab_J x 32 [some (ab_O 0), some (ab_O 1), some (ab_I l2), some (ab_I l3)] [] [w0, w1] kc ks := ab_go hx kX2_fill.2 22 [(22, [true, true, true, false]), (32, [true, true, true, true])] 32 h
def mX2_ofBest : ab_M := ((yX2_ofBest, cX2_ofBest, 8, (some .long)), ([2, 1], [(0, 0), (1, 0)], [false, false], false, false, 0), (false, 2, 3))
def rX2_ofBest : List ab_R := [(0, .aload_n 1, 1, 0, 0, 0, [], none),
  (1, .iload_n 2, 1, 0, 0, 0, [], none),
  (2, .iload_n 3, 1, 0, 0, 0, [], none),
  (3, .invokevirtual 45, 3, 0, 0, 0, [], some mX1_least),
  (6, .istore 4, 2, 0, 0, 0, [], none),
  (8, .lconst 0, 1, 0, 0, 0, [], none),
  (9, .lstore 5, 2, 0, 0, 0, [], none),
  (11, .iload_n 2, 1, 0, 0, 0, [], none),
  (12, .istore 7, 2, 0, 0, 0, [], none),
  (14, .iload 7, 2, 0, 0, 0, [], none),
  (16, .iload_n 3, 1, 0, 0, 0, [], none),
  (17, .if_icmp .gt 40, 3, 0, 0, 0, [57], none),
  (20, .aload_n 1, 1, 0, 0, 0, [], none),
  (21, .iload_n 2, 1, 0, 0, 0, [], none),
  (22, .iload_n 3, 1, 0, 0, 0, [], none),
  (23, .iload 7, 2, 0, 0, 0, [], none),
  (25, .invokevirtual 34, 3, 0, 0, 0, [], some mX1_cell),
  (28, .iload 4, 2, 0, 0, 0, [], none),
  (30, .if_icmp .ne 21, 3, 0, 0, 0, [51], none),
  (33, .lload 5, 2, 0, 0, 0, [], none),
  (35, .aload_n 0, 1, 0, 0, 0, [], none),
  (36, .getfield 7, 3, 2, 0, 0, [], none),
  (39, .iload_n 2, 1, 0, 0, 0, [], none),
  (40, .iload_n 3, 1, 0, 0, 0, [], none),
  (41, .invokestatic 23, 3, 0, 0, 0, [], some mX1_row),
  (44, .iload 7, 2, 0, 0, 0, [], none),
  (46, .iadd, 1, 0, 0, 0, [], none),
  (47, .laload, 1, 0, 0, 0, [], none),
  (48, .ladd, 1, 0, 0, 0, [], none),
  (49, .lstore 5, 2, 0, 0, 0, [], none),
  (51, .iinc 7 1, 3, 0, 0, 0, [], none),
  (54, .goto (-40), 3, 0, 0, 0, [14], none),
  (57, .lload 5, 2, 0, 0, 0, [], none),
  (59, .lreturn, 1, 0, 0, 0, [], none)]
set_option maxRecDepth 100000 in
theorem kX2_ofBest : ab_def_ok mX2_ofBest rX2_ofBest := ⟨ab_mok_of 792 104 790 791 (by decide +kernel), [0, 0, 0, 793, 0, 0, 0, 0, 0, 0, 0, 0, 0, 0, 0, 0, 782, 0, 0, 0, 0, 280, 0, 0, 777, 0, 0, 0, 0, 0, 0, 0, 0, 0], by decide +kernel⟩
set_option maxRecDepth 100000 in
theorem vX2_ofBest_0 {x : ab_Cx} {d mc ms : Nat} {Post : Option ab_V → List ab_Ob → Prop} (hx : ab_At x mX2_ofBest d mc ms Post) (a2 a3 : Int) (w0 w1 : ab_Ob) (kc ks : Nat)
    (h : (∃ Q1 : Option ab_V → List ab_Ob → Prop, ab_Ct d 0 0 mX1_least [ab_O 0, ab_I a2, ab_I a3] [w1] Q1 ∧ (∀ r2 : Int, Q1 (some (ab_I r2)) [w1] → ab_J x 14 [some (ab_O 0), some (ab_O 1), some (ab_I a2), some (ab_I a3), some (ab_I r2), some (ab_L 0), none, some (ab_I a2)] [] [w0, w1] kc ks))) :
    ab_J x 0 [some (ab_O 0), some (ab_O 1), some (ab_I a2), some (ab_I a3), none, none, none, none] [] [w0, w1] kc ks := ab_go hx kX2_ofBest.2 14 [(14, [true, true, true, true, true, true, false, true])] 0 h
set_option maxRecDepth 100000 in
theorem vX2_ofBest_14 {x : ab_Cx} {d mc ms : Nat} {Post : Option ab_V → List ab_Ob → Prop} (hx : ab_At x mX2_ofBest d mc ms Post) (l2 l3 l4 l5 l7 : Int) (w0 w1 : ab_Ob) (kc ks : Nat)
    (h : ((l3 < l7 → Post (some (ab_L l5)) [w0, w1]) ∧ (¬ l3 < l7 → (∃ Q1 : Option ab_V → List ab_Ob → Prop, ab_Ct d 0 0 mX1_cell [ab_O 0, ab_I l2, ab_I l3, ab_I l7] [w1] Q1 ∧ (∀ r2 : Int, Q1 (some (ab_I r2)) [w1] → ((¬ r2 = l4 → ((-2147483648 ≤ l7 + 1 ∧ l7 + 1 ≤ 2147483647) ∧ ab_J x 14 [some (ab_O 0), some (ab_O 1), some (ab_I l2), some (ab_I l3), some (ab_I l4), some (ab_L l5), none, some (ab_I (l7 + 1))] [] [w0, w1] kc ks)) ∧ (r2 = l4 → (∃ Q3 : Option ab_V → List ab_Ob → Prop, ab_Ct d 0 0 mX1_row [ab_I l2, ab_I l3] [] Q3 ∧ (∀ r4 : Int, Q3 (some (ab_I r4)) [] → ((-2147483648 ≤ r4 + l7 ∧ r4 + l7 ≤ 2147483647) ∧ ((0 ≤ (r4 + l7) ∧ (r4 + l7) < (w0.2 0).1) ∧ ((-9223372036854775808 ≤ l5 + ((w0.2 0).2 (r4 + l7)) ∧ l5 + ((w0.2 0).2 (r4 + l7)) ≤ 9223372036854775807) ∧ ((-2147483648 ≤ l7 + 1 ∧ l7 + 1 ≤ 2147483647) ∧ ab_J x 14 [some (ab_O 0), some (ab_O 1), some (ab_I l2), some (ab_I l3), some (ab_I l4), some (ab_L (l5 + ((w0.2 0).2 (r4 + l7)))), none, some (ab_I (l7 + 1))] [] [w0, w1] kc ks))))))))))))) :
    ab_J x 14 [some (ab_O 0), some (ab_O 1), some (ab_I l2), some (ab_I l3), some (ab_I l4), some (ab_L l5), none, some (ab_I l7)] [] [w0, w1] kc ks := ab_go hx kX2_ofBest.2 28 [(14, [true, true, true, true, true, true, false, true])] 14 h
