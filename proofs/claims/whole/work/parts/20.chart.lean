def mX1_row : ab_M := ((yX1_row, cX1_row, 2, (some .int)), ([], [], [], false, false, 0), (true, 1, 2))
def rX1_row : List ab_R := [(0, .iload_n 1, 1, 0, 0, 0, [], none),
  (1, .iload_n 1, 1, 0, 0, 0, [], none),
  (2, .iconst 1, 1, 0, 0, 0, [], none),
  (3, .iadd, 1, 0, 0, 0, [], none),
  (4, .imul, 1, 0, 0, 0, [], none),
  (5, .iconst 2, 1, 0, 0, 0, [], none),
  (6, .idiv, 1, 0, 0, 0, [], none),
  (7, .iload_n 0, 1, 0, 0, 0, [], none),
  (8, .iadd, 1, 0, 0, 0, [], none),
  (9, .bipush 24, 2, 0, 0, 0, [], none),
  (11, .imul, 1, 0, 0, 0, [], none),
  (12, .ireturn, 1, 0, 0, 0, [], none)]
set_option maxRecDepth 100000 in
theorem kX1_row : ab_def_ok mX1_row rX1_row := ⟨ab_mok_of 678 103 677 0 (by decide +kernel), [0, 0, 0, 0, 0, 0, 0, 0, 0, 0, 0, 0], by decide +kernel⟩
set_option maxRecDepth 100000 in
theorem vX1_row_0 {x : ab_Cx} {d mc ms : Nat} {Post : Option ab_V → List ab_Ob → Prop} (hx : ab_At x mX1_row d mc ms Post) (a0 a1 : Int) (kc ks : Nat)
    (h : ((-2147483648 ≤ a1 + 1 ∧ a1 + 1 ≤ 2147483647) ∧ ((-2147483648 ≤ a1 * (a1 + 1) ∧ a1 * (a1 + 1) ≤ 2147483647) ∧ ((¬ (2 : Int) = 0) ∧ ((-2147483648 ≤ (Int.tdiv (a1 * (a1 + 1)) 2) ∧ (Int.tdiv (a1 * (a1 + 1)) 2) ≤ 2147483647) ∧ ((-2147483648 ≤ (Int.tdiv (a1 * (a1 + 1)) 2) + a0 ∧ (Int.tdiv (a1 * (a1 + 1)) 2) + a0 ≤ 2147483647) ∧ ((-2147483648 ≤ ((Int.tdiv (a1 * (a1 + 1)) 2) + a0) * 24 ∧ ((Int.tdiv (a1 * (a1 + 1)) 2) + a0) * 24 ≤ 2147483647) ∧ Post (some (ab_I (((Int.tdiv (a1 * (a1 + 1)) 2) + a0) * 24))) []))))))) :
    ab_J x 0 [some (ab_I a0), some (ab_I a1)] [] [] kc ks := ab_go hx kX1_row.2 16 [] 0 h
def mX1_cell : ab_M := ((yX1_cell, cX1_cell, 4, (some .int)), ([1], [(0, 0)], [false], false, false, 0), (false, 1, 3))
def rX1_cell : List ab_R := [(0, .aload_n 0, 1, 0, 0, 0, [], none),
  (1, .getfield 18, 3, 1, 2, 0, [], none),
  (4, .iload_n 1, 1, 0, 0, 0, [], none),
  (5, .iload_n 2, 1, 0, 0, 0, [], none),
  (6, .invokestatic 25, 3, 0, 0, 0, [], some mX1_row),
  (9, .iload_n 3, 1, 0, 0, 0, [], none),
  (10, .iadd, 1, 0, 0, 0, [], none),
  (11, .iaload, 1, 0, 0, 0, [], none),
  (12, .ireturn, 1, 0, 0, 0, [], none)]
set_option maxRecDepth 100000 in
theorem kX1_cell : ab_def_ok mX1_cell rX1_cell := ⟨ab_mok_of 711 103 709 710 (by decide +kernel), [0, 263, 0, 0, 676, 0, 0, 0, 0], by decide +kernel⟩
set_option maxRecDepth 100000 in
theorem vX1_cell_0 {x : ab_Cx} {d mc ms : Nat} {Post : Option ab_V → List ab_Ob → Prop} (hx : ab_At x mX1_cell d mc ms Post) (a1 a2 a3 : Int) (w0 : ab_Ob) (kc ks : Nat)
    (h : (∃ Q1 : Option ab_V → List ab_Ob → Prop, ab_Ct d 0 0 mX1_row [ab_I a1, ab_I a2] [] Q1 ∧ (∀ r2 : Int, Q1 (some (ab_I r2)) [] → ((-2147483648 ≤ r2 + a3 ∧ r2 + a3 ≤ 2147483647) ∧ ((0 ≤ (r2 + a3) ∧ (r2 + a3) < (w0.2 2).1) ∧ Post (some (ab_I ((w0.2 2).2 (r2 + a3)))) [w0]))))) :
    ab_J x 0 [some (ab_O 0), some (ab_I a1), some (ab_I a2), some (ab_I a3)] [] [w0] kc ks := ab_go hx kX1_cell.2 13 [] 0 h
def mX1_leastInside : ab_M := ((yX1_leastInside, cX1_leastInside, 10, (some .int)), ([1], [(0, 0)], [false], false, false, 0), (false, 1, 3))
def rX1_leastInside : List ab_R := [(0, .iload_n 1, 1, 0, 0, 0, [], none),
  (1, .iload_n 1, 1, 0, 0, 0, [], none),
  (2, .invokestatic 25, 3, 0, 0, 0, [], some mX1_row),
  (5, .iload_n 3, 1, 0, 0, 0, [], none),
  (6, .iadd, 1, 0, 0, 0, [], none),
  (7, .istore 4, 2, 0, 0, 0, [], none),
  (9, .iload_n 1, 1, 0, 0, 0, [], none),
  (10, .iconst 1, 1, 0, 0, 0, [], none),
  (11, .iadd, 1, 0, 0, 0, [], none),
  (12, .iload_n 2, 1, 0, 0, 0, [], none),
  (13, .invokestatic 25, 3, 0, 0, 0, [], some mX1_row),
  (16, .iload_n 3, 1, 0, 0, 0, [], none),
  (17, .iadd, 1, 0, 0, 0, [], none),
  (18, .istore 5, 2, 0, 0, 0, [], none),
  (20, .iload_n 1, 1, 0, 0, 0, [], none),
  (21, .iload_n 2, 1, 0, 0, 0, [], none),
  (22, .isub, 1, 0, 0, 0, [], none),
  (23, .iconst 1, 1, 0, 0, 0, [], none),
  (24, .iadd, 1, 0, 0, 0, [], none),
  (25, .istore 6, 2, 0, 0, 0, [], none),
  (27, .ldc 50, 2, 0, 1000000000, 0, [], none),
  (29, .istore 7, 2, 0, 0, 0, [], none),
  (31, .iload_n 1, 1, 0, 0, 0, [], none),
  (32, .istore 8, 2, 0, 0, 0, [], none),
  (34, .iload 8, 2, 0, 0, 0, [], none),
  (36, .iload_n 2, 1, 0, 0, 0, [], none),
  (37, .if_icmp .ge 74, 3, 0, 0, 0, [111], none),
  (40, .aload_n 0, 1, 0, 0, 0, [], none),
  (41, .getfield 18, 3, 1, 2, 0, [], none),
  (44, .iload 4, 2, 0, 0, 0, [], none),
  (46, .iaload, 1, 0, 0, 0, [], none),
  (47, .aload_n 0, 1, 0, 0, 0, [], none),
  (48, .getfield 18, 3, 1, 2, 0, [], none),
  (51, .iload 5, 2, 0, 0, 0, [], none),
  (53, .iaload, 1, 0, 0, 0, [], none),
  (54, .iadd, 1, 0, 0, 0, [], none),
  (55, .aload_n 0, 1, 0, 0, 0, [], none),
  (56, .getfield 15, 3, 1, 1, 0, [], none),
  (59, .iload 6, 2, 0, 0, 0, [], none),
  (61, .ifCond .ge 9, 3, 0, 0, 0, [70], none),
  (64, .iload 6, 2, 0, 0, 0, [], none),
  (66, .ineg, 1, 0, 0, 0, [], none),
  (67, .goto 5, 3, 0, 0, 0, [72], none),
  (70, .iload 6, 2, 0, 0, 0, [], none),
  (72, .imul, 1, 0, 0, 0, [], none),
  (73, .iadd, 1, 0, 0, 0, [], none),
  (74, .istore 9, 2, 0, 0, 0, [], none),
  (76, .iload 9, 2, 0, 0, 0, [], none),
  (78, .iload 7, 2, 0, 0, 0, [], none),
  (80, .if_icmp .ge 7, 3, 0, 0, 0, [87], none),
  (83, .iload 9, 2, 0, 0, 0, [], none),
  (85, .istore 7, 2, 0, 0, 0, [], none),
  (87, .iload 4, 2, 0, 0, 0, [], none),
  (89, .iload 8, 2, 0, 0, 0, [], none),
  (91, .iconst 1, 1, 0, 0, 0, [], none),
  (92, .iadd, 1, 0, 0, 0, [], none),
  (93, .bipush 24, 2, 0, 0, 0, [], none),
  (95, .imul, 1, 0, 0, 0, [], none),
  (96, .iadd, 1, 0, 0, 0, [], none),
  (97, .istore 4, 2, 0, 0, 0, [], none),
  (99, .iinc 5 24, 3, 0, 0, 0, [], none),
  (102, .iinc 6 2, 3, 0, 0, 0, [], none),
  (105, .iinc 8 1, 3, 0, 0, 0, [], none),
  (108, .goto (-74), 3, 0, 0, 0, [34], none),
  (111, .iload 7, 2, 0, 0, 0, [], none),
  (113, .ireturn, 1, 0, 0, 0, [], none)]
set_option maxRecDepth 100000 in
theorem kX1_leastInside : ab_def_ok mX1_leastInside rX1_leastInside := ⟨ab_mok_of 682 103 681 22 (by decide +kernel), [0, 0, 676, 0, 0, 0, 0, 0, 0, 0, 676, 0, 0, 0, 0, 0, 0, 0, 0, 0, 683, 0, 0, 0, 0, 0, 0, 0, 263, 0, 0, 0, 263, 0, 0, 0, 0, 262, 0, 0, 0, 0, 0, 0, 0, 0, 0, 0, 0, 0, 0, 0, 0, 0, 0, 0, 0, 0, 0, 0, 0, 0, 0, 0, 0, 0], by decide +kernel⟩
set_option maxRecDepth 100000 in
theorem vX1_leastInside_0 {x : ab_Cx} {d mc ms : Nat} {Post : Option ab_V → List ab_Ob → Prop} (hx : ab_At x mX1_leastInside d mc ms Post) (a1 a2 a3 : Int) (w0 : ab_Ob) (kc ks : Nat)
    (h : (∃ Q1 : Option ab_V → List ab_Ob → Prop, ab_Ct d 0 0 mX1_row [ab_I a1, ab_I a1] [] Q1 ∧ (∀ r2 : Int, Q1 (some (ab_I r2)) [] → ((-2147483648 ≤ r2 + a3 ∧ r2 + a3 ≤ 2147483647) ∧ ((-2147483648 ≤ a1 + 1 ∧ a1 + 1 ≤ 2147483647) ∧ (∃ Q3 : Option ab_V → List ab_Ob → Prop, ab_Ct d 0 0 mX1_row [ab_I (a1 + 1), ab_I a2] [] Q3 ∧ (∀ r4 : Int, Q3 (some (ab_I r4)) [] → ((-2147483648 ≤ r4 + a3 ∧ r4 + a3 ≤ 2147483647) ∧ ((-2147483648 ≤ a1 - a2 ∧ a1 - a2 ≤ 2147483647) ∧ ((-2147483648 ≤ (a1 - a2) + 1 ∧ (a1 - a2) + 1 ≤ 2147483647) ∧ ab_J x 34 [some (ab_O 0), none, some (ab_I a2), none, some (ab_I (r2 + a3)), some (ab_I (r4 + a3)), some (ab_I ((a1 - a2) + 1)), some (ab_I 1000000000), some (ab_I a1), none] [] [w0] kc ks)))))))))) :
    ab_J x 0 [some (ab_O 0), some (ab_I a1), some (ab_I a2), some (ab_I a3), none, none, none, none, none, none] [] [w0] kc ks := ab_go hx kX1_leastInside.2 29 [(34, [true, false, true, false, true, true, true, true, true, false])] 0 h
set_option maxRecDepth 100000 in
theorem vX1_leastInside_34 {x : ab_Cx} {d mc ms : Nat} {Post : Option ab_V → List ab_Ob → Prop} (hx : ab_At x mX1_leastInside d mc ms Post) (l2 l4 l5 l6 l7 l8 : Int) (w0 : ab_Ob) (kc ks : Nat)
    (h : ((l2 ≤ l8 → Post (some (ab_I l7)) [w0]) ∧ (¬ l2 ≤ l8 → ((0 ≤ l4 ∧ l4 < (w0.2 2).1) ∧ ((0 ≤ l5 ∧ l5 < (w0.2 2).1) ∧ ((-2147483648 ≤ ((w0.2 2).2 l4) + ((w0.2 2).2 l5) ∧ ((w0.2 2).2 l4) + ((w0.2 2).2 l5) ≤ 2147483647) ∧ ((0 ≤ l6 → ((-2147483648 ≤ (w0.1 1) * l6 ∧ (w0.1 1) * l6 ≤ 2147483647) ∧ ((-2147483648 ≤ (((w0.2 2).2 l4) + ((w0.2 2).2 l5)) + ((w0.1 1) * l6) ∧ (((w0.2 2).2 l4) + ((w0.2 2).2 l5)) + ((w0.1 1) * l6) ≤ 2147483647) ∧ ((l7 ≤ ((((w0.2 2).2 l4) + ((w0.2 2).2 l5)) + ((w0.1 1) * l6)) → ((-2147483648 ≤ l8 + 1 ∧ l8 + 1 ≤ 2147483647) ∧ ((-2147483648 ≤ (l8 + 1) * 24 ∧ (l8 + 1) * 24 ≤ 2147483647) ∧ ((-2147483648 ≤ l4 + ((l8 + 1) * 24) ∧ l4 + ((l8 + 1) * 24) ≤ 2147483647) ∧ ((-2147483648 ≤ l5 + 24 ∧ l5 + 24 ≤ 2147483647) ∧ ((-2147483648 ≤ l6 + 2 ∧ l6 + 2 ≤ 2147483647) ∧ ((-2147483648 ≤ l8 + 1 ∧ l8 + 1 ≤ 2147483647) ∧ ab_J x 34 [some (ab_O 0), none, some (ab_I l2), none, some (ab_I (l4 + ((l8 + 1) * 24))), some (ab_I (l5 + 24)), some (ab_I (l6 + 2)), some (ab_I l7), some (ab_I (l8 + 1)), none] [] [w0] kc ks))))))) ∧ (¬ l7 ≤ ((((w0.2 2).2 l4) + ((w0.2 2).2 l5)) + ((w0.1 1) * l6)) → ((-2147483648 ≤ l8 + 1 ∧ l8 + 1 ≤ 2147483647) ∧ ((-2147483648 ≤ (l8 + 1) * 24 ∧ (l8 + 1) * 24 ≤ 2147483647) ∧ ((-2147483648 ≤ l4 + ((l8 + 1) * 24) ∧ l4 + ((l8 + 1) * 24) ≤ 2147483647) ∧ ((-2147483648 ≤ l5 + 24 ∧ l5 + 24 ≤ 2147483647) ∧ ((-2147483648 ≤ l6 + 2 ∧ l6 + 2 ≤ 2147483647) ∧ ((-2147483648 ≤ l8 + 1 ∧ l8 + 1 ≤ 2147483647) ∧ ab_J x 34 [some (ab_O 0), none, some (ab_I l2), none, some (ab_I (l4 + ((l8 + 1) * 24))), some (ab_I (l5 + 24)), some (ab_I (l6 + 2)), some (ab_I ((((w0.2 2).2 l4) + ((w0.2 2).2 l5)) + ((w0.1 1) * l6))), some (ab_I (l8 + 1)), none] [] [w0] kc ks))))))))))) ∧ (¬ 0 ≤ l6 → ((-2147483648 ≤ -l6 ∧ -l6 ≤ 2147483647) ∧ ((-2147483648 ≤ (w0.1 1) * (-l6) ∧ (w0.1 1) * (-l6) ≤ 2147483647) ∧ ((-2147483648 ≤ (((w0.2 2).2 l4) + ((w0.2 2).2 l5)) + ((w0.1 1) * (-l6)) ∧ (((w0.2 2).2 l4) + ((w0.2 2).2 l5)) + ((w0.1 1) * (-l6)) ≤ 2147483647) ∧ ((l7 ≤ ((((w0.2 2).2 l4) + ((w0.2 2).2 l5)) + ((w0.1 1) * (-l6))) → ((-2147483648 ≤ l8 + 1 ∧ l8 + 1 ≤ 2147483647) ∧ ((-2147483648 ≤ (l8 + 1) * 24 ∧ (l8 + 1) * 24 ≤ 2147483647) ∧ ((-2147483648 ≤ l4 + ((l8 + 1) * 24) ∧ l4 + ((l8 + 1) * 24) ≤ 2147483647) ∧ ((-2147483648 ≤ l5 + 24 ∧ l5 + 24 ≤ 2147483647) ∧ ((-2147483648 ≤ l6 + 2 ∧ l6 + 2 ≤ 2147483647) ∧ ((-2147483648 ≤ l8 + 1 ∧ l8 + 1 ≤ 2147483647) ∧ ab_J x 34 [some (ab_O 0), none, some (ab_I l2), none, some (ab_I (l4 + ((l8 + 1) * 24))), some (ab_I (l5 + 24)), some (ab_I (l6 + 2)), some (ab_I l7), some (ab_I (l8 + 1)), none] [] [w0] kc ks))))))) ∧ (¬ l7 ≤ ((((w0.2 2).2 l4) + ((w0.2 2).2 l5)) + ((w0.1 1) * (-l6))) → ((-2147483648 ≤ l8 + 1 ∧ l8 + 1 ≤ 2147483647) ∧ ((-2147483648 ≤ (l8 + 1) * 24 ∧ (l8 + 1) * 24 ≤ 2147483647) ∧ ((-2147483648 ≤ l4 + ((l8 + 1) * 24) ∧ l4 + ((l8 + 1) * 24) ≤ 2147483647) ∧ ((-2147483648 ≤ l5 + 24 ∧ l5 + 24 ≤ 2147483647) ∧ ((-2147483648 ≤ l6 + 2 ∧ l6 + 2 ≤ 2147483647) ∧ ((-2147483648 ≤ l8 + 1 ∧ l8 + 1 ≤ 2147483647) ∧ ab_J x 34 [some (ab_O 0), none, some (ab_I l2), none, some (ab_I (l4 + ((l8 + 1) * 24))), some (ab_I (l5 + 24)), some (ab_I (l6 + 2)), some (ab_I ((((w0.2 2).2 l4) + ((w0.2 2).2 l5)) + ((w0.1 1) * (-l6)))), some (ab_I (l8 + 1)), none] [] [w0] kc ks))))))))))))))))))) :
    ab_J x 34 [some (ab_O 0), none, some (ab_I l2), none, some (ab_I l4), some (ab_I l5), some (ab_I l6), some (ab_I l7), some (ab_I l8), none] [] [w0] kc ks := ab_go hx kX1_leastInside.2 44 [(34, [true, false, true, false, true, true, true, true, true, false])] 34 h
def mX1_leastUnder : ab_M := ((yX1_leastUnder, cX1_leastUnder, 8, (some .int)), ([1], [(0, 0)], [false], false, false, 0), (false, 1, 4))
def rX1_leastUnder : List ab_R := [(0, .aload_n 0, 1, 0, 0, 0, [], none),
  (1, .getfield 18, 3, 1, 2, 0, [], none),
  (4, .iload_n 1, 1, 0, 0, 0, [], none),
  (5, .iload_n 2, 1, 0, 0, 0, [], none),
  (6, .iadd, 1, 0, 0, 0, [], none),
  (7, .iaload, 1, 0, 0, 0, [], none),
  (8, .aload_n 0, 1, 0, 0, 0, [], none),
  (9, .getfield 22, 3, 1, 3, 0, [], none),
  (12, .iload 4, 2, 0, 0, 0, [], none),
  (14, .iload_n 2, 1, 0, 0, 0, [], none),
  (15, .iadd, 1, 0, 0, 0, [], none),
  (16, .iaload, 1, 0, 0, 0, [], none),
  (17, .iadd, 1, 0, 0, 0, [], none),
  (18, .istore 5, 2, 0, 0, 0, [], none),
  (20, .iload_n 2, 1, 0, 0, 0, [], none),
  (21, .iconst 1, 1, 0, 0, 0, [], none),
  (22, .iadd, 1, 0, 0, 0, [], none),
  (23, .istore 6, 2, 0, 0, 0, [], none),
  (25, .iload 6, 2, 0, 0, 0, [], none),
  (27, .iload_n 3, 1, 0, 0, 0, [], none),
  (28, .if_icmp .gt 42, 3, 0, 0, 0, [70], none),
  (31, .aload_n 0, 1, 0, 0, 0, [], none),
  (32, .getfield 18, 3, 1, 2, 0, [], none),
  (35, .iload_n 1, 1, 0, 0, 0, [], none),
  (36, .iload 6, 2, 0, 0, 0, [], none),
  (38, .iadd, 1, 0, 0, 0, [], none),
  (39, .iaload, 1, 0, 0, 0, [], none),
  (40, .aload_n 0, 1, 0, 0, 0, [], none),
  (41, .getfield 22, 3, 1, 3, 0, [], none),
  (44, .iload 4, 2, 0, 0, 0, [], none),
  (46, .iload 6, 2, 0, 0, 0, [], none),
  (48, .iadd, 1, 0, 0, 0, [], none),
  (49, .iaload, 1, 0, 0, 0, [], none),
  (50, .iadd, 1, 0, 0, 0, [], none),
  (51, .istore 7, 2, 0, 0, 0, [], none),
  (53, .iload 7, 2, 0, 0, 0, [], none),
  (55, .iload 5, 2, 0, 0, 0, [], none),
  (57, .if_icmp .ge 7, 3, 0, 0, 0, [64], none),
  (60, .iload 7, 2, 0, 0, 0, [], none),
  (62, .istore 5, 2, 0, 0, 0, [], none),
  (64, .iinc 6 1, 3, 0, 0, 0, [], none),
  (67, .goto (-42), 3, 0, 0, 0, [25], none),
  (70, .iload 5, 2, 0, 0, 0, [], none),
  (72, .ireturn, 1, 0, 0, 0, [], none)]
set_option maxRecDepth 100000 in
theorem kX1_leastUnder : ab_def_ok mX1_leastUnder rX1_leastUnder := ⟨ab_mok_of 687 103 686 23 (by decide +kernel), [0, 263, 0, 0, 0, 0, 0, 264, 0, 0, 0, 0, 0, 0, 0, 0, 0, 0, 0, 0, 0, 0, 263, 0, 0, 0, 0, 0, 264, 0, 0, 0, 0, 0, 0, 0, 0, 0, 0, 0, 0, 0, 0, 0], by decide +kernel⟩
set_option maxRecDepth 100000 in
theorem vX1_leastUnder_0 {x : ab_Cx} {d mc ms : Nat} {Post : Option ab_V → List ab_Ob → Prop} (hx : ab_At x mX1_leastUnder d mc ms Post) (a1 a2 a3 a4 : Int) (w0 : ab_Ob) (kc ks : Nat)
    (h : ((-2147483648 ≤ a1 + a2 ∧ a1 + a2 ≤ 2147483647) ∧ ((0 ≤ (a1 + a2) ∧ (a1 + a2) < (w0.2 2).1) ∧ ((-2147483648 ≤ a4 + a2 ∧ a4 + a2 ≤ 2147483647) ∧ ((0 ≤ (a4 + a2) ∧ (a4 + a2) < (w0.2 3).1) ∧ ((-2147483648 ≤ ((w0.2 2).2 (a1 + a2)) + ((w0.2 3).2 (a4 + a2)) ∧ ((w0.2 2).2 (a1 + a2)) + ((w0.2 3).2 (a4 + a2)) ≤ 2147483647) ∧ ((-2147483648 ≤ a2 + 1 ∧ a2 + 1 ≤ 2147483647) ∧ ab_J x 25 [some (ab_O 0), some (ab_I a1), none, some (ab_I a3), some (ab_I a4), some (ab_I (((w0.2 2).2 (a1 + a2)) + ((w0.2 3).2 (a4 + a2)))), some (ab_I (a2 + 1)), none] [] [w0] kc ks))))))) :
    ab_J x 0 [some (ab_O 0), some (ab_I a1), some (ab_I a2), some (ab_I a3), some (ab_I a4), none, none, none] [] [w0] kc ks := ab_go hx kX1_leastUnder.2 23 [(25, [true, true, false, true, true, true, true, false])] 0 h
set_option maxRecDepth 100000 in
theorem vX1_leastUnder_25 {x : ab_Cx} {d mc ms : Nat} {Post : Option ab_V → List ab_Ob → Prop} (hx : ab_At x mX1_leastUnder d mc ms Post) (l1 l3 l4 l5 l6 : Int) (w0 : ab_Ob) (kc ks : Nat)
    (h : ((l3 < l6 → Post (some (ab_I l5)) [w0]) ∧ (¬ l3 < l6 → ((-2147483648 ≤ l1 + l6 ∧ l1 + l6 ≤ 2147483647) ∧ ((0 ≤ (l1 + l6) ∧ (l1 + l6) < (w0.2 2).1) ∧ ((-2147483648 ≤ l4 + l6 ∧ l4 + l6 ≤ 2147483647) ∧ ((0 ≤ (l4 + l6) ∧ (l4 + l6) < (w0.2 3).1) ∧ ((-2147483648 ≤ ((w0.2 2).2 (l1 + l6)) + ((w0.2 3).2 (l4 + l6)) ∧ ((w0.2 2).2 (l1 + l6)) + ((w0.2 3).2 (l4 + l6)) ≤ 2147483647) ∧ ((l5 ≤ (((w0.2 2).2 (l1 + l6)) + ((w0.2 3).2 (l4 + l6))) → ((-2147483648 ≤ l6 + 1 ∧ l6 + 1 ≤ 2147483647) ∧ ab_J x 25 [some (ab_O 0), some (ab_I l1), none, some (ab_I l3), some (ab_I l4), some (ab_I l5), some (ab_I (l6 + 1)), none] [] [w0] kc ks)) ∧ (¬ l5 ≤ (((w0.2 2).2 (l1 + l6)) + ((w0.2 3).2 (l4 + l6))) → ((-2147483648 ≤ l6 + 1 ∧ l6 + 1 ≤ 2147483647) ∧ ab_J x 25 [some (ab_O 0), some (ab_I l1), none, some (ab_I l3), some (ab_I l4), some (ab_I (((w0.2 2).2 (l1 + l6)) + ((w0.2 3).2 (l4 + l6)))), some (ab_I (l6 + 1)), none] [] [w0] kc ks))))))))))) :
    ab_J x 25 [some (ab_O 0), some (ab_I l1), none, some (ab_I l3), some (ab_I l4), some (ab_I l5), some (ab_I l6), none] [] [w0] kc ks := ab_go hx kX1_leastUnder.2 29 [(25, [true, true, false, true, true, true, true, false])] 25 h
def mX1_fillSpan : ab_M := ((yX1_fillSpan, cX1_fillSpan, 5, none), ([1], [(0, 0)], [true], false, false, 0), (false, 1, 2))
def rX1_fillSpan : List ab_R := [(0, .iload_n 1, 1, 0, 0, 0, [], none),
  (1, .iload_n 2, 1, 0, 0, 0, [], none),
  (2, .invokestatic 25, 3, 0, 0, 0, [], some mX1_row),
  (5, .istore_n 3, 1, 0, 0, 0, [], none),
  (6, .iload_n 1, 1, 0, 0, 0, [], none),
  (7, .istore 4, 2, 0, 0, 0, [], none),
  (9, .iload 4, 2, 0, 0, 0, [], none),
  (11, .iload_n 2, 1, 0, 0, 0, [], none),
  (12, .if_icmp .gt 35, 3, 0, 0, 0, [47], none),
  (15, .aload_n 0, 1, 0, 0, 0, [], none),
  (16, .getfield 18, 3, 1, 2, 0, [], none),
  (19, .iload_n 3, 1, 0, 0, 0, [], none),
  (20, .iload 4, 2, 0, 0, 0, [], none),
  (22, .iadd, 1, 0, 0, 0, [], none),
  (23, .iload_n 1, 1, 0, 0, 0, [], none),
  (24, .iload_n 2, 1, 0, 0, 0, [], none),
  (25, .if_icmp .ne 7, 3, 0, 0, 0, [32], none),
  (28, .iconst 0, 1, 0, 0, 0, [], none),
  (29, .goto 11, 3, 0, 0, 0, [40], none),
  (32, .aload_n 0, 1, 0, 0, 0, [], none),
  (33, .iload_n 1, 1, 0, 0, 0, [], none),
  (34, .iload_n 2, 1, 0, 0, 0, [], none),
  (35, .iload 4, 2, 0, 0, 0, [], none),
  (37, .invokevirtual 43, 3, 0, 0, 0, [], some mX1_leastInside),
  (40, .iastore, 1, 0, 0, 0, [], none),
  (41, .iinc 4 1, 3, 0, 0, 0, [], none),
  (44, .goto (-35), 3, 0, 0, 0, [9], none),
  (47, .iconst 0, 1, 0, 0, 0, [], none),
  (48, .istore 4, 2, 0, 0, 0, [], none),
  (50, .iload 4, 2, 0, 0, 0, [], none),
  (52, .iload_n 1, 1, 0, 0, 0, [], none),
  (53, .if_icmp .ge 30, 3, 0, 0, 0, [83], none),
  (56, .aload_n 0, 1, 0, 0, 0, [], none),
  (57, .getfield 18, 3, 1, 2, 0, [], none),
  (60, .iload_n 3, 1, 0, 0, 0, [], none),
  (61, .iload 4, 2, 0, 0, 0, [], none),
  (63, .iadd, 1, 0, 0, 0, [], none),
  (64, .aload_n 0, 1, 0, 0, 0, [], none),
  (65, .iload_n 3, 1, 0, 0, 0, [], none),
  (66, .iload_n 1, 1, 0, 0, 0, [], none),
  (67, .iload_n 2, 1, 0, 0, 0, [], none),
  (68, .iload 4, 2, 0, 0, 0, [], none),
  (70, .bipush 24, 2, 0, 0, 0, [], none),
  (72, .imul, 1, 0, 0, 0, [], none),
  (73, .invokevirtual 47, 3, 0, 0, 0, [], some mX1_leastUnder),
  (76, .iastore, 1, 0, 0, 0, [], none),
  (77, .iinc 4 1, 3, 0, 0, 0, [], none),
  (80, .goto (-30), 3, 0, 0, 0, [50], none),
  (83, .iload_n 2, 1, 0, 0, 0, [], none),
  (84, .iconst 1, 1, 0, 0, 0, [], none),
  (85, .iadd, 1, 0, 0, 0, [], none),
  (86, .istore 4, 2, 0, 0, 0, [], none),
  (88, .iload 4, 2, 0, 0, 0, [], none),
  (90, .aload_n 0, 1, 0, 0, 0, [], none),
  (91, .getfield 9, 3, 1, 0, 0, [], none),
  (94, .if_icmp .ge 30, 3, 0, 0, 0, [124], none),
  (97, .aload_n 0, 1, 0, 0, 0, [], none),
  (98, .getfield 18, 3, 1, 2, 0, [], none),
  (101, .iload_n 3, 1, 0, 0, 0, [], none),
  (102, .iload 4, 2, 0, 0, 0, [], none),
  (104, .iadd, 1, 0, 0, 0, [], none),
  (105, .aload_n 0, 1, 0, 0, 0, [], none),
  (106, .iload_n 3, 1, 0, 0, 0, [], none),
  (107, .iload_n 1, 1, 0, 0, 0, [], none),
  (108, .iload_n 2, 1, 0, 0, 0, [], none),
  (109, .iload 4, 2, 0, 0, 0, [], none),
  (111, .bipush 24, 2, 0, 0, 0, [], none),
  (113, .imul, 1, 0, 0, 0, [], none),
  (114, .invokevirtual 47, 3, 0, 0, 0, [], some mX1_leastUnder),
  (117, .iastore, 1, 0, 0, 0, [], none),
  (118, .iinc 4 1, 3, 0, 0, 0, [], none),
  (121, .goto (-33), 3, 0, 0, 0, [88], none),
  (124, .return_, 1, 0, 0, 0, [], none)]
set_option maxRecDepth 100000 in
theorem kX1_fillSpan : ab_def_ok mX1_fillSpan rX1_fillSpan := ⟨ab_mok_of 675 103 674 21 (by decide +kernel), [0, 0, 676, 0, 0, 0, 0, 0, 0, 0, 263, 0, 0, 0, 0, 0, 0, 0, 0, 0, 0, 0, 0, 679, 0, 0, 0, 0, 0, 0, 0, 0, 0, 263, 0, 0, 0, 0, 0, 0, 0, 0, 0, 0, 684, 0, 0, 0, 0, 0, 0, 0, 0, 0, 260, 0, 0, 263, 0, 0, 0, 0, 0, 0, 0, 0, 0, 0, 684, 0, 0, 0, 0], by decide +kernel⟩
set_option maxRecDepth 100000 in
theorem vX1_fillSpan_0 {x : ab_Cx} {d mc ms : Nat} {Post : Option ab_V → List ab_Ob → Prop} (hx : ab_At x mX1_fillSpan d mc ms Post) (a1 a2 : Int) (w0 : ab_Ob) (kc ks : Nat)
    (h : (∃ Q1 : Option ab_V → List ab_Ob → Prop, ab_Ct d 0 0 mX1_row [ab_I a1, ab_I a2] [] Q1 ∧ (∀ r2 : Int, Q1 (some (ab_I r2)) [] → ab_J x 9 [some (ab_O 0), some (ab_I a1), some (ab_I a2), some (ab_I r2), some (ab_I a1)] [] [w0] kc ks))) :
    ab_J x 0 [some (ab_O 0), some (ab_I a1), some (ab_I a2), none, none] [] [w0] kc ks := ab_go hx kX1_fillSpan.2 11 [(9, [true, true, true, true, true]), (50, [true, true, true, true, true]), (88, [true, true, true, true, true])] 0 h
set_option maxRecDepth 100000 in
theorem vX1_fillSpan_9 {x : ab_Cx} {d mc ms : Nat} {Post : Option ab_V → List ab_Ob → Prop} (hx : ab_At x mX1_fillSpan d mc ms Post) (l1 l2 l3 l4 : Int) (w0 : ab_Ob) (kc ks : Nat)
    (h : ((l2 < l4 → ab_J x 50 [some (ab_O 0), some (ab_I l1), some (ab_I l2), some (ab_I l3), some (ab_I 0)] [] [w0] kc ks) ∧ (¬ l2 < l4 → ((-2147483648 ≤ l3 + l4 ∧ l3 + l4 ≤ 2147483647) ∧ ((¬ l1 = l2 → (∃ Q1 : Option ab_V → List ab_Ob → Prop, ab_Ct d 0 0 mX1_leastInside [ab_O 0, ab_I l1, ab_I l2, ab_I l4] [w0] Q1 ∧ (∀ r2 : Int, Q1 (some (ab_I r2)) [w0] → ((0 ≤ (l3 + l4) ∧ (l3 + l4) < (w0.2 2).1) ∧ ((-2147483648 ≤ l4 + 1 ∧ l4 + 1 ≤ 2147483647) ∧ ab_J x 9 [some (ab_O 0), some (ab_I l1), some (ab_I l2), some (ab_I l3), some (ab_I (l4 + 1))] [] [(ab_pa w0 2 (l3 + l4) r2)] kc ks))))) ∧ (l1 = l2 → ((0 ≤ (l3 + l4) ∧ (l3 + l4) < (w0.2 2).1) ∧ ((-2147483648 ≤ l4 + 1 ∧ l4 + 1 ≤ 2147483647) ∧ ab_J x 9 [some (ab_O 0), some (ab_I l1), some (ab_I l2), some (ab_I l3), some (ab_I (l4 + 1))] [] [(ab_pa w0 2 (l3 + l4) 0)] kc ks)))))))) :
    ab_J x 9 [some (ab_O 0), some (ab_I l1), some (ab_I l2), some (ab_I l3), some (ab_I l4)] [] [w0] kc ks := ab_go hx kX1_fillSpan.2 24 [(9, [true, true, true, true, true]), (50, [true, true, true, true, true]), (88, [true, true, true, true, true])] 9 h
set_option maxRecDepth 100000 in
theorem vX1_fillSpan_50 {x : ab_Cx} {d mc ms : Nat} {Post : Option ab_V → List ab_Ob → Prop} (hx : ab_At x mX1_fillSpan d mc ms Post) (l1 l2 l3 l4 : Int) (w0 : ab_Ob) (kc ks : Nat)
    (h : ((l1 ≤ l4 → ((-2147483648 ≤ l2 + 1 ∧ l2 + 1 ≤ 2147483647) ∧ ab_J x 88 [some (ab_O 0), some (ab_I l1), some (ab_I l2), some (ab_I l3), some (ab_I (l2 + 1))] [] [w0] kc ks)) ∧ (¬ l1 ≤ l4 → ((-2147483648 ≤ l3 + l4 ∧ l3 + l4 ≤ 2147483647) ∧ ((-2147483648 ≤ l4 * 24 ∧ l4 * 24 ≤ 2147483647) ∧ (∃ Q1 : Option ab_V → List ab_Ob → Prop, ab_Ct d 0 0 mX1_leastUnder [ab_O 0, ab_I l3, ab_I l1, ab_I l2, ab_I (l4 * 24)] [w0] Q1 ∧ (∀ r2 : Int, Q1 (some (ab_I r2)) [w0] → ((0 ≤ (l3 + l4) ∧ (l3 + l4) < (w0.2 2).1) ∧ ((-2147483648 ≤ l4 + 1 ∧ l4 + 1 ≤ 2147483647) ∧ ab_J x 50 [some (ab_O 0), some (ab_I l1), some (ab_I l2), some (ab_I l3), some (ab_I (l4 + 1))] [] [(ab_pa w0 2 (l3 + l4) r2)] kc ks))))))))) :
    ab_J x 50 [some (ab_O 0), some (ab_I l1), some (ab_I l2), some (ab_I l3), some (ab_I l4)] [] [w0] kc ks := ab_go hx kX1_fillSpan.2 24 [(9, [true, true, true, true, true]), (50, [true, true, true, true, true]), (88, [true, true, true, true, true])] 50 h
set_option maxRecDepth 100000 in
theorem vX1_fillSpan_88 {x : ab_Cx} {d mc ms : Nat} {Post : Option ab_V → List ab_Ob → Prop} (hx : ab_At x mX1_fillSpan d mc ms Post) (l1 l2 l3 l4 : Int) (w0 : ab_Ob) (kc ks : Nat)
    (h : (((w0.1 0) ≤ l4 → Post none [w0]) ∧ (¬ (w0.1 0) ≤ l4 → ((-2147483648 ≤ l3 + l4 ∧ l3 + l4 ≤ 2147483647) ∧ ((-2147483648 ≤ l4 * 24 ∧ l4 * 24 ≤ 2147483647) ∧ (∃ Q1 : Option ab_V → List ab_Ob → Prop, ab_Ct d 0 0 mX1_leastUnder [ab_O 0, ab_I l3, ab_I l1, ab_I l2, ab_I (l4 * 24)] [w0] Q1 ∧ (∀ r2 : Int, Q1 (some (ab_I r2)) [w0] → ((0 ≤ (l3 + l4) ∧ (l3 + l4) < (w0.2 2).1) ∧ ((-2147483648 ≤ l4 + 1 ∧ l4 + 1 ≤ 2147483647) ∧ ab_J x 88 [some (ab_O 0), some (ab_I l1), some (ab_I l2), some (ab_I l3), some (ab_I (l4 + 1))] [] [(ab_pa w0 2 (l3 + l4) r2)] kc ks))))))))) :
    ab_J x 88 [some (ab_O 0), some (ab_I l1), some (ab_I l2), some (ab_I l3), some (ab_I l4)] [] [w0] kc ks := ab_go hx kX1_fillSpan.2 25 [(9, [true, true, true, true, true]), (50, [true, true, true, true, true]), (88, [true, true, true, true, true])] 88 h
def mX1_fill : ab_M := ((yX1_fill, cX1_fill, 4, none), ([1, 5], [(0, 0), (1, 0)], [true, false], true, true, 0), (false, 1, 1))
def rX1_fill : List ab_R := [(0, .aload_n 0, 1, 0, 0, 0, [], none),
  (1, .getfield 18, 3, 1, 2, 0, [], none),
  (4, .arraylength, 1, 0, 0, 0, [], none),
  (5, .sipush 7200, 3, 0, 0, 0, [], none),
  (8, .if_icmp .ge 21, 3, 0, 0, 0, [29], none),
  (11, .aload_n 0, 1, 0, 0, 0, [], none),
  (12, .sipush 7200, 3, 0, 0, 0, [], none),
  (15, .newarray .int, 2, 0, 0, 0, [], none),
  (17, .putfield 18, 3, 1, 2, 0, [], none),
  (20, .aload_n 0, 1, 0, 0, 0, [], none),
  (21, .sipush 576, 3, 0, 0, 0, [], none),
  (24, .newarray .int, 2, 0, 0, 0, [], none),
  (26, .putfield 22, 3, 1, 3, 0, [], none),
  (29, .aload_n 0, 1, 0, 0, 0, [], none),
  (30, .aload_n 1, 1, 0, 0, 0, [], none),
  (31, .getfield 29, 3, 5, 3, 0, [], none),
  (34, .putfield 9, 3, 1, 0, 0, [], none),
  (37, .aload_n 0, 1, 0, 0, 0, [], none),
  (38, .aload_n 1, 1, 0, 0, 0, [], none),
  (39, .getfield 32, 3, 5, 6, 0, [], none),
  (42, .iconst 4, 1, 0, 0, 0, [], none),
  (43, .iaload, 1, 0, 0, 0, [], none),
  (44, .putfield 15, 3, 1, 1, 0, [], none),
  (47, .iconst 0, 1, 0, 0, 0, [], none),
  (48, .istore_n 2, 1, 0, 0, 0, [], none),
  (49, .iload_n 2, 1, 0, 0, 0, [], none),
  (50, .aload_n 0, 1, 0, 0, 0, [], none),
  (51, .getfield 9, 3, 1, 0, 0, [], none),
  (54, .if_icmp .ge 44, 3, 0, 0, 0, [98], none),
  (57, .iconst 0, 1, 0, 0, 0, [], none),
  (58, .istore_n 3, 1, 0, 0, 0, [], none),
  (59, .iload_n 3, 1, 0, 0, 0, [], none),
  (60, .aload_n 0, 1, 0, 0, 0, [], none),
  (61, .getfield 9, 3, 1, 0, 0, [], none),
  (64, .if_icmp .ge 28, 3, 0, 0, 0, [92], none),
  (67, .aload_n 0, 1, 0, 0, 0, [], none),
  (68, .getfield 22, 3, 1, 3, 0, [], none),
  (71, .iload_n 2, 1, 0, 0, 0, [], none),
  (72, .bipush 24, 2, 0, 0, 0, [], none),
  (74, .imul, 1, 0, 0, 0, [], none),
  (75, .iload_n 3, 1, 0, 0, 0, [], none),
  (76, .iadd, 1, 0, 0, 0, [], none),
  (77, .aload_n 1, 1, 0, 0, 0, [], none),
  (78, .iload_n 2, 1, 0, 0, 0, [], none),
  (79, .iload_n 3, 1, 0, 0, 0, [], none),
  (80, .iconst 1, 1, 0, 0, 0, [], none),
  (81, .iconst 1, 1, 0, 0, 0, [], none),
  (82, .invokevirtual 35, 3, 0, 0, 0, [], some mX5_breaking),
  (85, .iastore, 1, 0, 0, 0, [], none),
  (86, .iinc 3 1, 3, 0, 0, 0, [], none),
  (89, .goto (-30), 3, 0, 0, 0, [59], none),
  (92, .iinc 2 1, 3, 0, 0, 0, [], none),
  (95, .goto (-46), 3, 0, 0, 0, [49], none),
  (98, .iconst 1, 1, 0, 0, 0, [], none),
  (99, .istore_n 2, 1, 0, 0, 0, [], none),
  (100, .iload_n 2, 1, 0, 0, 0, [], none),
  (101, .aload_n 0, 1, 0, 0, 0, [], none),
  (102, .getfield 9, 3, 1, 0, 0, [], none),
  (105, .if_icmp .gt 37, 3, 0, 0, 0, [142], none),
  (108, .iconst 0, 1, 0, 0, 0, [], none),
  (109, .istore_n 3, 1, 0, 0, 0, [], none),
  (110, .iload_n 3, 1, 0, 0, 0, [], none),
  (111, .iload_n 2, 1, 0, 0, 0, [], none),
  (112, .iadd, 1, 0, 0, 0, [], none),
  (113, .aload_n 0, 1, 0, 0, 0, [], none),
  (114, .getfield 9, 3, 1, 0, 0, [], none),
  (117, .if_icmp .gt 19, 3, 0, 0, 0, [136], none),
  (120, .aload_n 0, 1, 0, 0, 0, [], none),
  (121, .iload_n 3, 1, 0, 0, 0, [], none),
  (122, .iload_n 3, 1, 0, 0, 0, [], none),
  (123, .iload_n 2, 1, 0, 0, 0, [], none),
  (124, .iadd, 1, 0, 0, 0, [], none),
  (125, .iconst 1, 1, 0, 0, 0, [], none),
  (126, .isub, 1, 0, 0, 0, [], none),
  (127, .invokevirtual 39, 3, 0, 0, 0, [], some mX1_fillSpan),
  (130, .iinc 3 1, 3, 0, 0, 0, [], none),
  (133, .goto (-23), 3, 0, 0, 0, [110], none),
  (136, .iinc 2 1, 3, 0, 0, 0, [], none),
  (139, .goto (-39), 3, 0, 0, 0, [100], none),
  (142, .return_, 1, 0, 0, 0, [], none)]
set_option maxRecDepth 100000 in
theorem kX1_fill : ab_def_ok mX1_fill rX1_fill := ⟨ab_mok_of 657 103 655 656 (by decide +kernel), [0, 263, 0, 0, 0, 0, 0, 190, 263, 0, 0, 190, 264, 0, 0, 149, 260, 0, 0, 159, 0, 0, 262, 0, 0, 0, 0, 260, 0, 0, 0, 0, 0, 260, 0, 0, 264, 0, 0, 0, 0, 0, 0, 0, 0, 0, 0, 658, 0, 0, 0, 0, 0, 0, 0, 0, 0, 260, 0, 0, 0, 0, 0, 0, 0, 260, 0, 0, 0, 0, 0, 0, 0, 0, 672, 0, 0, 0, 0, 0], by decide +kernel⟩
set_option maxRecDepth 100000 in
theorem vX1_fill_0 {x : ab_Cx} {d mc ms : Nat} {Post : Option ab_V → List ab_Ob → Prop} (hx : ab_At x mX1_fill d mc ms Post) (w0 w1 : ab_Ob) (kc ks : Nat)
    (h : ((7200 ≤ ((w0.2 2).1) → ((0 ≤ (4 : Int) ∧ (4 : Int) < (w1.2 6).1) ∧ ab_J x 49 [some (ab_O 0), some (ab_O 1), some (ab_I 0), none] [] [(ab_pf (ab_pf w0 0 (w1.1 3)) 1 ((w1.2 6).2 4)), w1] kc ks)) ∧ (¬ 7200 ≤ ((w0.2 2).1) → ((0 ≤ (7200 : Int) ∧ (7200 : Int) ≤ 100000) ∧ (kc + 1 ≤ mc ∧ ks + Int.toNat 7200 ≤ ms) ∧ ((0 ≤ (576 : Int) ∧ (576 : Int) ≤ 100000) ∧ ((kc + 1) + 1 ≤ mc ∧ (ks + Int.toNat 7200) + Int.toNat 576 ≤ ms) ∧ ((0 ≤ (4 : Int) ∧ (4 : Int) < (w1.2 6).1) ∧ ab_J x 49 [some (ab_O 0), some (ab_O 1), some (ab_I 0), none] [] [(ab_pf (ab_pf (ab_pn (ab_pn w0 2 7200) 3 576) 0 (w1.1 3)) 1 ((w1.2 6).2 4)), w1] ((kc + 1) + 1) ((ks + Int.toNat 7200) + Int.toNat 576))))))) :
    ab_J x 0 [some (ab_O 0), some (ab_O 1), none, none] [] [w0, w1] kc ks := ab_go hx kX1_fill.2 30 [(49, [true, true, true, false]), (59, [true, true, true, true]), (100, [true, false, true, false]), (110, [true, false, true, true])] 0 h
set_option maxRecDepth 100000 in
theorem vX1_fill_49 {x : ab_Cx} {d mc ms : Nat} {Post : Option ab_V → List ab_Ob → Prop} (hx : ab_At x mX1_fill d mc ms Post) (l2 : Int) (w0 w1 : ab_Ob) (kc ks : Nat)
    (h : (((w0.1 0) ≤ l2 → ab_J x 100 [some (ab_O 0), none, some (ab_I 1), none] [] [w0, w1] kc ks) ∧ (¬ (w0.1 0) ≤ l2 → ab_J x 59 [some (ab_O 0), some (ab_O 1), some (ab_I l2), some (ab_I 0)] [] [w0, w1] kc ks))) :
    ab_J x 49 [some (ab_O 0), some (ab_O 1), some (ab_I l2), none] [] [w0, w1] kc ks := ab_go hx kX1_fill.2 11 [(49, [true, true, true, false]), (59, [true, true, true, true]), (100, [true, false, true, false]), (110, [true, false, true, true])] 49 h
set_option maxRecDepth 100000 in
theorem vX1_fill_100 {x : ab_Cx} {d mc ms : Nat} {Post : Option ab_V → List ab_Ob → Prop} (hx : ab_At x mX1_fill d mc ms Post) (l2 : Int) (w0 w1 : ab_Ob) (kc ks : Nat)
    (h : (((w0.1 0) < l2 → Post none [w0, w1]) ∧ (¬ (w0.1 0) < l2 → ab_J x 110 [some (ab_O 0), none, some (ab_I l2), some (ab_I 0)] [] [w0, w1] kc ks))) :
    ab_J x 100 [some (ab_O 0), none, some (ab_I l2), none] [] [w0, w1] kc ks := ab_go hx kX1_fill.2 11 [(49, [true, true, true, false]), (59, [true, true, true, true]), (100, [true, false, true, false]), (110, [true, false, true, true])] 100 h
set_option maxRecDepth 100000 in
theorem vX1_fill_59 {x : ab_Cx} {d mc ms : Nat} {Post : Option ab_V → List ab_Ob → Prop} (hx : ab_At x mX1_fill d mc ms Post) (l2 l3 : Int) (w0 w1 : ab_Ob) (kc ks : Nat)
    (h : (((w0.1 0) ≤ l3 → ((-2147483648 ≤ l2 + 1 ∧ l2 + 1 ≤ 2147483647) ∧ ab_J x 49 [some (ab_O 0), some (ab_O 1), some (ab_I (l2 + 1)), none] [] [w0, w1] kc ks)) ∧ (¬ (w0.1 0) ≤ l3 → ((-2147483648 ≤ l2 * 24 ∧ l2 * 24 ≤ 2147483647) ∧ ((-2147483648 ≤ (l2 * 24) + l3 ∧ (l2 * 24) + l3 ≤ 2147483647) ∧ (∃ Q1 : Option ab_V → List ab_Ob → Prop, ab_Ct d 0 0 mX5_breaking [ab_O 0, ab_I l2, ab_I l3, ab_I 1, ab_I 1] [w1] Q1 ∧ (∀ r2 : Int, Q1 (some (ab_I r2)) [w1] → ((0 ≤ ((l2 * 24) + l3) ∧ ((l2 * 24) + l3) < (w0.2 3).1) ∧ ((-2147483648 ≤ l3 + 1 ∧ l3 + 1 ≤ 2147483647) ∧ ab_J x 59 [some (ab_O 0), some (ab_O 1), some (ab_I l2), some (ab_I (l3 + 1))] [] [(ab_pa w0 3 ((l2 * 24) + l3) r2), w1] kc ks))))))))) :
    ab_J x 59 [some (ab_O 0), some (ab_O 1), some (ab_I l2), some (ab_I l3)] [] [w0, w1] kc ks := ab_go hx kX1_fill.2 25 [(49, [true, true, true, false]), (59, [true, true, true, true]), (100, [true, false, true, false]), (110, [true, false, true, true])] 59 h
set_option maxRecDepth 100000 in
theorem vX1_fill_110 {x : ab_Cx} {d mc ms : Nat} {Post : Option ab_V → List ab_Ob → Prop} (hx : ab_At x mX1_fill d mc ms Post) (l2 l3 : Int) (w0 w1 : ab_Ob) (kc ks : Nat)
    (h : ((-2147483648 ≤ l3 + l2 ∧ l3 + l2 ≤ 2147483647) ∧ (((w0.1 0) < (l3 + l2) → ((-2147483648 ≤ l2 + 1 ∧ l2 + 1 ≤ 2147483647) ∧ ab_J x 100 [some (ab_O 0), none, some (ab_I (l2 + 1)), none] [] [w0, w1] kc ks)) ∧ (¬ (w0.1 0) < (l3 + l2) → ((-2147483648 ≤ l3 + l2 ∧ l3 + l2 ≤ 2147483647) ∧ ((-2147483648 ≤ (l3 + l2) - 1 ∧ (l3 + l2) - 1 ≤ 2147483647) ∧ (∃ Q1 : Option ab_V → List ab_Ob → Prop, ab_Ct d 0 0 mX1_fillSpan [ab_O 0, ab_I l3, ab_I ((l3 + l2) - 1)] [w0] Q1 ∧ (∀ v2 : ab_Ob, Q1 none [v2] → ((-2147483648 ≤ l3 + 1 ∧ l3 + 1 ≤ 2147483647) ∧ ab_J x 110 [some (ab_O 0), none, some (ab_I l2), some (ab_I (l3 + 1))] [] [v2, w1] kc ks))))))))) :
    ab_J x 110 [some (ab_O 0), none, some (ab_I l2), some (ab_I l3)] [] [w0, w1] kc ks := ab_go hx kX1_fill.2 21 [(49, [true, true, true, false]), (59, [true, true, true, true]), (100, [true, false, true, false]), (110, [true, false, true, true])] 110 h
def mX1_bestHead : ab_M := ((yX1_bestHead, cX1_bestHead, 6, (some .int)), ([1], [(0, 0)], [false], false, false, 0), (false, 1, 2))
def rX1_bestHead : List ab_R := [(0, .iload_n 1, 1, 0, 0, 0, [], none),
  (1, .iload_n 2, 1, 0, 0, 0, [], none),
  (2, .invokestatic 25, 3, 0, 0, 0, [], some mX1_row),
  (5, .istore_n 3, 1, 0, 0, 0, [], none),
  (6, .iload_n 1, 1, 0, 0, 0, [], none),
  (7, .istore 4, 2, 0, 0, 0, [], none),
  (9, .iload_n 1, 1, 0, 0, 0, [], none),
  (10, .iconst 1, 1, 0, 0, 0, [], none),
  (11, .iadd, 1, 0, 0, 0, [], none),
  (12, .istore 5, 2, 0, 0, 0, [], none),
  (14, .iload 5, 2, 0, 0, 0, [], none),
  (16, .iload_n 2, 1, 0, 0, 0, [], none),
  (17, .if_icmp .gt 34, 3, 0, 0, 0, [51], none),
  (20, .aload_n 0, 1, 0, 0, 0, [], none),
  (21, .getfield 18, 3, 1, 2, 0, [], none),
  (24, .iload_n 3, 1, 0, 0, 0, [], none),
  (25, .iload 5, 2, 0, 0, 0, [], none),
  (27, .iadd, 1, 0, 0, 0, [], none),
  (28, .iaload, 1, 0, 0, 0, [], none),
  (29, .aload_n 0, 1, 0, 0, 0, [], none),
  (30, .getfield 18, 3, 1, 2, 0, [], none),
  (33, .iload_n 3, 1, 0, 0, 0, [], none),
  (34, .iload 4, 2, 0, 0, 0, [], none),
  (36, .iadd, 1, 0, 0, 0, [], none),
  (37, .iaload, 1, 0, 0, 0, [], none),
  (38, .if_icmp .ge 7, 3, 0, 0, 0, [45], none),
  (41, .iload 5, 2, 0, 0, 0, [], none),
  (43, .istore 4, 2, 0, 0, 0, [], none),
  (45, .iinc 5 1, 3, 0, 0, 0, [], none),
  (48, .goto (-34), 3, 0, 0, 0, [14], none),
  (51, .iload 4, 2, 0, 0, 0, [], none),
  (53, .ireturn, 1, 0, 0, 0, [], none)]
set_option maxRecDepth 100000 in
theorem kX1_bestHead : ab_def_ok mX1_bestHead rX1_bestHead := ⟨ab_mok_of 695 103 693 694 (by decide +kernel), [0, 0, 676, 0, 0, 0, 0, 0, 0, 0, 0, 0, 0, 0, 263, 0, 0, 0, 0, 0, 263, 0, 0, 0, 0, 0, 0, 0, 0, 0, 0, 0], by decide +kernel⟩
set_option maxRecDepth 100000 in
theorem vX1_bestHead_0 {x : ab_Cx} {d mc ms : Nat} {Post : Option ab_V → List ab_Ob → Prop} (hx : ab_At x mX1_bestHead d mc ms Post) (a1 a2 : Int) (w0 : ab_Ob) (kc ks : Nat)
    (h : (∃ Q1 : Option ab_V → List ab_Ob → Prop, ab_Ct d 0 0 mX1_row [ab_I a1, ab_I a2] [] Q1 ∧ (∀ r2 : Int, Q1 (some (ab_I r2)) [] → ((-2147483648 ≤ a1 + 1 ∧ a1 + 1 ≤ 2147483647) ∧ ab_J x 14 [some (ab_O 0), none, some (ab_I a2), some (ab_I r2), some (ab_I a1), some (ab_I (a1 + 1))] [] [w0] kc ks)))) :
    ab_J x 0 [some (ab_O 0), some (ab_I a1), some (ab_I a2), none, none, none] [] [w0] kc ks := ab_go hx kX1_bestHead.2 15 [(14, [true, false, true, true, true, true])] 0 h
set_option maxRecDepth 100000 in
theorem vX1_bestHead_14 {x : ab_Cx} {d mc ms : Nat} {Post : Option ab_V → List ab_Ob → Prop} (hx : ab_At x mX1_bestHead d mc ms Post) (l2 l3 l4 l5 : Int) (w0 : ab_Ob) (kc ks : Nat)
    (h : ((l2 < l5 → Post (some (ab_I l4)) [w0]) ∧ (¬ l2 < l5 → ((-2147483648 ≤ l3 + l5 ∧ l3 + l5 ≤ 2147483647) ∧ ((0 ≤ (l3 + l5) ∧ (l3 + l5) < (w0.2 2).1) ∧ ((-2147483648 ≤ l3 + l4 ∧ l3 + l4 ≤ 2147483647) ∧ ((0 ≤ (l3 + l4) ∧ (l3 + l4) < (w0.2 2).1) ∧ ((((w0.2 2).2 (l3 + l4)) ≤ ((w0.2 2).2 (l3 + l5)) → ((-2147483648 ≤ l5 + 1 ∧ l5 + 1 ≤ 2147483647) ∧ ab_J x 14 [some (ab_O 0), none, some (ab_I l2), some (ab_I l3), some (ab_I l4), some (ab_I (l5 + 1))] [] [w0] kc ks)) ∧ (¬ ((w0.2 2).2 (l3 + l4)) ≤ ((w0.2 2).2 (l3 + l5)) → ((-2147483648 ≤ l5 + 1 ∧ l5 + 1 ≤ 2147483647) ∧ ab_J x 14 [some (ab_O 0), none, some (ab_I l2), some (ab_I l3), some (ab_I l5), some (ab_I (l5 + 1))] [] [w0] kc ks)))))))))) :
    ab_J x 14 [some (ab_O 0), none, some (ab_I l2), some (ab_I l3), some (ab_I l4), some (ab_I l5)] [] [w0] kc ks := ab_go hx kX1_bestHead.2 25 [(14, [true, false, true, true, true, true])] 14 h
def mX1_least : ab_M := ((yX1_least, cX1_least, 3, (some .int)), ([1], [(0, 0)], [false], false, false, 0), (false, 1, 2))
def rX1_least : List ab_R := [(0, .aload_n 0, 1, 0, 0, 0, [], none),
  (1, .iload_n 1, 1, 0, 0, 0, [], none),
  (2, .iload_n 2, 1, 0, 0, 0, [], none),
  (3, .aload_n 0, 1, 0, 0, 0, [], none),
  (4, .iload_n 1, 1, 0, 0, 0, [], none),
  (5, .iload_n 2, 1, 0, 0, 0, [], none),
  (6, .invokevirtual 51, 3, 0, 0, 0, [], some mX1_bestHead),
  (9, .invokevirtual 54, 3, 0, 0, 0, [], some mX1_cell),
  (12, .ireturn, 1, 0, 0, 0, [], none)]
set_option maxRecDepth 100000 in
theorem kX1_least : ab_def_ok mX1_least rX1_least := ⟨ab_mok_of 748 103 746 747 (by decide +kernel), [0, 0, 0, 0, 0, 0, 749, 708, 0], by decide +kernel⟩
set_option maxRecDepth 100000 in
theorem vX1_least_0 {x : ab_Cx} {d mc ms : Nat} {Post : Option ab_V → List ab_Ob → Prop} (hx : ab_At x mX1_least d mc ms Post) (a1 a2 : Int) (w0 : ab_Ob) (kc ks : Nat)
    (h : (∃ Q1 : Option ab_V → List ab_Ob → Prop, ab_Ct d 0 0 mX1_bestHead [ab_O 0, ab_I a1, ab_I a2] [w0] Q1 ∧ (∀ r2 : Int, Q1 (some (ab_I r2)) [w0] → (∃ Q3 : Option ab_V → List ab_Ob → Prop, ab_Ct d 0 0 mX1_cell [ab_O 0, ab_I a1, ab_I a2, ab_I r2] [w0] Q3 ∧ (∀ r4 : Int, Q3 (some (ab_I r4)) [w0] → Post (some (ab_I r4)) [w0]))))) :
    ab_J x 0 [some (ab_O 0), some (ab_I a1), some (ab_I a2)] [] [w0] kc ks := ab_go hx kX1_least.2 13 [] 0 h
def mX1_nextHead : ab_M := ((yX1_nextHead, cX1_nextHead, 7, (some .int)), ([1], [(0, 0)], [false], false, false, 0), (false, 1, 2))
def rX1_nextHead : List ab_R := [(0, .iload_n 1, 1, 0, 0, 0, [], none),
  (1, .iload_n 2, 1, 0, 0, 0, [], none),
  (2, .invokestatic 25, 3, 0, 0, 0, [], some mX1_row),
  (5, .istore_n 3, 1, 0, 0, 0, [], none),
  (6, .aload_n 0, 1, 0, 0, 0, [], none),
  (7, .iload_n 1, 1, 0, 0, 0, [], none),
  (8, .iload_n 2, 1, 0, 0, 0, [], none),
  (9, .invokevirtual 51, 3, 0, 0, 0, [], some mX1_bestHead),
  (12, .istore 4, 2, 0, 0, 0, [], none),
  (14, .iload 4, 2, 0, 0, 0, [], none),
  (16, .iload_n 1, 1, 0, 0, 0, [], none),
  (17, .if_icmp .ne 9, 3, 0, 0, 0, [26], none),
  (20, .iload_n 1, 1, 0, 0, 0, [], none),
  (21, .iconst 1, 1, 0, 0, 0, [], none),
  (22, .iadd, 1, 0, 0, 0, [], none),
  (23, .goto 4, 3, 0, 0, 0, [27], none),
  (26, .iload_n 1, 1, 0, 0, 0, [], none),
  (27, .istore 5, 2, 0, 0, 0, [], none),
  (29, .iload 5, 2, 0, 0, 0, [], none),
  (31, .iconst 1, 1, 0, 0, 0, [], none),
  (32, .iadd, 1, 0, 0, 0, [], none),
  (33, .istore 6, 2, 0, 0, 0, [], none),
  (35, .iload 6, 2, 0, 0, 0, [], none),
  (37, .iload_n 2, 1, 0, 0, 0, [], none),
  (38, .if_icmp .gt 41, 3, 0, 0, 0, [79], none),
  (41, .iload 6, 2, 0, 0, 0, [], none),
  (43, .iload 4, 2, 0, 0, 0, [], none),
  (45, .if_icmp .eq 28, 3, 0, 0, 0, [73], none),
  (48, .aload_n 0, 1, 0, 0, 0, [], none),
  (49, .getfield 18, 3, 1, 2, 0, [], none),
  (52, .iload_n 3, 1, 0, 0, 0, [], none),
  (53, .iload 6, 2, 0, 0, 0, [], none),
  (55, .iadd, 1, 0, 0, 0, [], none),
  (56, .iaload, 1, 0, 0, 0, [], none),
  (57, .aload_n 0, 1, 0, 0, 0, [], none),
  (58, .getfield 18, 3, 1, 2, 0, [], none),
  (61, .iload_n 3, 1, 0, 0, 0, [], none),
  (62, .iload 5, 2, 0, 0, 0, [], none),
  (64, .iadd, 1, 0, 0, 0, [], none),
  (65, .iaload, 1, 0, 0, 0, [], none),
  (66, .if_icmp .ge 7, 3, 0, 0, 0, [73], none),
  (69, .iload 6, 2, 0, 0, 0, [], none),
  (71, .istore 5, 2, 0, 0, 0, [], none),
  (73, .iinc 6 1, 3, 0, 0, 0, [], none),
  (76, .goto (-41), 3, 0, 0, 0, [35], none),
  (79, .iload 5, 2, 0, 0, 0, [], none),
  (81, .ireturn, 1, 0, 0, 0, [], none)]
set_option maxRecDepth 100000 in
theorem kX1_nextHead : ab_def_ok mX1_nextHead rX1_nextHead := ⟨ab_mok_of 814 103 812 813 (by decide +kernel), [0, 0, 676, 0, 0, 0, 0, 749, 0, 0, 0, 0, 0, 0, 0, 0, 0, 0, 0, 0, 0, 0, 0, 0, 0, 0, 0, 0, 0, 263, 0, 0, 0, 0, 0, 263, 0, 0, 0, 0, 0, 0, 0, 0, 0, 0, 0], by decide +kernel⟩
set_option maxRecDepth 100000 in
theorem vX1_nextHead_0 {x : ab_Cx} {d mc ms : Nat} {Post : Option ab_V → List ab_Ob → Prop} (hx : ab_At x mX1_nextHead d mc ms Post) (a1 a2 : Int) (w0 : ab_Ob) (kc ks : Nat)
    (h : (∃ Q1 : Option ab_V → List ab_Ob → Prop, ab_Ct d 0 0 mX1_row [ab_I a1, ab_I a2] [] Q1 ∧ (∀ r2 : Int, Q1 (some (ab_I r2)) [] → (∃ Q3 : Option ab_V → List ab_Ob → Prop, ab_Ct d 0 0 mX1_bestHead [ab_O 0, ab_I a1, ab_I a2] [w0] Q3 ∧ (∀ r4 : Int, Q3 (some (ab_I r4)) [w0] → ((¬ r4 = a1 → ((-2147483648 ≤ a1 + 1 ∧ a1 + 1 ≤ 2147483647) ∧ ab_J x 35 [some (ab_O 0), none, some (ab_I a2), some (ab_I r2), some (ab_I r4), some (ab_I a1), some (ab_I (a1 + 1))] [] [w0] kc ks)) ∧ (r4 = a1 → ((-2147483648 ≤ a1 + 1 ∧ a1 + 1 ≤ 2147483647) ∧ ((-2147483648 ≤ (a1 + 1) + 1 ∧ (a1 + 1) + 1 ≤ 2147483647) ∧ ab_J x 35 [some (ab_O 0), none, some (ab_I a2), some (ab_I r2), some (ab_I r4), some (ab_I (a1 + 1)), some (ab_I ((a1 + 1) + 1))] [] [w0] kc ks))))))))) :
    ab_J x 0 [some (ab_O 0), some (ab_I a1), some (ab_I a2), none, none, none, none] [] [w0] kc ks := ab_go hx kX1_nextHead.2 26 [(35, [true, false, true, true, true, true, true])] 0 h
set_option maxRecDepth 100000 in
theorem vX1_nextHead_35 {x : ab_Cx} {d mc ms : Nat} {Post : Option ab_V → List ab_Ob → Prop} (hx : ab_At x mX1_nextHead d mc ms Post) (l2 l3 l4 l5 l6 : Int) (w0 : ab_Ob) (kc ks : Nat)
    (h : ((l2 < l6 → Post (some (ab_I l5)) [w0]) ∧ (¬ l2 < l6 → ((l6 = l4 → ((-2147483648 ≤ l6 + 1 ∧ l6 + 1 ≤ 2147483647) ∧ ab_J x 35 [some (ab_O 0), none, some (ab_I l2), some (ab_I l3), some (ab_I l4), some (ab_I l5), some (ab_I (l6 + 1))] [] [w0] kc ks)) ∧ (¬ l6 = l4 → ((-2147483648 ≤ l3 + l6 ∧ l3 + l6 ≤ 2147483647) ∧ ((0 ≤ (l3 + l6) ∧ (l3 + l6) < (w0.2 2).1) ∧ ((-2147483648 ≤ l3 + l5 ∧ l3 + l5 ≤ 2147483647) ∧ ((0 ≤ (l3 + l5) ∧ (l3 + l5) < (w0.2 2).1) ∧ ((((w0.2 2).2 (l3 + l5)) ≤ ((w0.2 2).2 (l3 + l6)) → ((-2147483648 ≤ l6 + 1 ∧ l6 + 1 ≤ 2147483647) ∧ ab_J x 35 [some (ab_O 0), none, some (ab_I l2), some (ab_I l3), some (ab_I l4), some (ab_I l5), some (ab_I (l6 + 1))] [] [w0] kc ks)) ∧ (¬ ((w0.2 2).2 (l3 + l5)) ≤ ((w0.2 2).2 (l3 + l6)) → ((-2147483648 ≤ l6 + 1 ∧ l6 + 1 ≤ 2147483647) ∧ ab_J x 35 [some (ab_O 0), none, some (ab_I l2), some (ab_I l3), some (ab_I l4), some (ab_I l6), some (ab_I (l6 + 1))] [] [w0] kc ks)))))))))))) :
    ab_J x 35 [some (ab_O 0), none, some (ab_I l2), some (ab_I l3), some (ab_I l4), some (ab_I l5), some (ab_I l6)] [] [w0] kc ks := ab_go hx kX1_nextHead.2 28 [(35, [true, false, true, true, true, true, true])] 35 h
def mX1_splitAt : ab_M := ((yX1_splitAt, cX1_splitAt, 6, (some .int)), ([1], [(0, 0)], [false], false, false, 0), (false, 1, 4))
def rX1_splitAt : List ab_R := [(0, .iload_n 3, 1, 0, 0, 0, [], none),
  (1, .iconst 1, 1, 0, 0, 0, [], none),
  (2, .iadd, 1, 0, 0, 0, [], none),
  (3, .iload_n 1, 1, 0, 0, 0, [], none),
  (4, .isub, 1, 0, 0, 0, [], none),
  (5, .iload_n 2, 1, 0, 0, 0, [], none),
  (6, .iload_n 3, 1, 0, 0, 0, [], none),
  (7, .isub, 1, 0, 0, 0, [], none),
  (8, .isub, 1, 0, 0, 0, [], none),
  (9, .istore 5, 2, 0, 0, 0, [], none),
  (11, .aload_n 0, 1, 0, 0, 0, [], none),
  (12, .getfield 18, 3, 1, 2, 0, [], none),
  (15, .iload_n 1, 1, 0, 0, 0, [], none),
  (16, .iload_n 3, 1, 0, 0, 0, [], none),
  (17, .invokestatic 25, 3, 0, 0, 0, [], some mX1_row),
  (20, .iload 4, 2, 0, 0, 0, [], none),
  (22, .iadd, 1, 0, 0, 0, [], none),
  (23, .iaload, 1, 0, 0, 0, [], none),
  (24, .aload_n 0, 1, 0, 0, 0, [], none),
  (25, .getfield 18, 3, 1, 2, 0, [], none),
  (28, .iload_n 3, 1, 0, 0, 0, [], none),
  (29, .iconst 1, 1, 0, 0, 0, [], none),
  (30, .iadd, 1, 0, 0, 0, [], none),
  (31, .iload_n 2, 1, 0, 0, 0, [], none),
  (32, .invokestatic 25, 3, 0, 0, 0, [], some mX1_row),
  (35, .iload 4, 2, 0, 0, 0, [], none),
  (37, .iadd, 1, 0, 0, 0, [], none),
  (38, .iaload, 1, 0, 0, 0, [], none),
  (39, .iadd, 1, 0, 0, 0, [], none),
  (40, .aload_n 0, 1, 0, 0, 0, [], none),
  (41, .getfield 15, 3, 1, 1, 0, [], none),
  (44, .iload 5, 2, 0, 0, 0, [], none),
  (46, .invokestatic 57, 3, 0, 0, 12, [], none),
  (49, .imul, 1, 0, 0, 0, [], none),
  (50, .iadd, 1, 0, 0, 0, [], none),
  (51, .ireturn, 1, 0, 0, 0, [], none)]
set_option maxRecDepth 100000 in
theorem kX1_splitAt : ab_def_ok mX1_splitAt rX1_splitAt := ⟨ab_mok_of 715 103 713 714 (by decide +kernel), [0, 0, 0, 0, 0, 0, 0, 0, 0, 0, 0, 263, 0, 0, 676, 0, 0, 0, 0, 263, 0, 0, 0, 0, 676, 0, 0, 0, 0, 0, 262, 0, 716, 0, 0, 0], by decide +kernel⟩
set_option maxRecDepth 100000 in
theorem vX1_splitAt_0 {x : ab_Cx} {d mc ms : Nat} {Post : Option ab_V → List ab_Ob → Prop} (hx : ab_At x mX1_splitAt d mc ms Post) (a1 a2 a3 a4 : Int) (w0 : ab_Ob) (kc ks : Nat)
    (h : ((-2147483648 ≤ a3 + 1 ∧ a3 + 1 ≤ 2147483647) ∧ ((-2147483648 ≤ (a3 + 1) - a1 ∧ (a3 + 1) - a1 ≤ 2147483647) ∧ ((-2147483648 ≤ a2 - a3 ∧ a2 - a3 ≤ 2147483647) ∧ ((-2147483648 ≤ ((a3 + 1) - a1) - (a2 - a3) ∧ ((a3 + 1) - a1) - (a2 - a3) ≤ 2147483647) ∧ (∃ Q1 : Option ab_V → List ab_Ob → Prop, ab_Ct d 0 0 mX1_row [ab_I a1, ab_I a3] [] Q1 ∧ (∀ r2 : Int, Q1 (some (ab_I r2)) [] → ((-2147483648 ≤ r2 + a4 ∧ r2 + a4 ≤ 2147483647) ∧ ((0 ≤ (r2 + a4) ∧ (r2 + a4) < (w0.2 2).1) ∧ ((-2147483648 ≤ a3 + 1 ∧ a3 + 1 ≤ 2147483647) ∧ (∃ Q3 : Option ab_V → List ab_Ob → Prop, ab_Ct d 0 0 mX1_row [ab_I (a3 + 1), ab_I a2] [] Q3 ∧ (∀ r4 : Int, Q3 (some (ab_I r4)) [] → ((-2147483648 ≤ r4 + a4 ∧ r4 + a4 ≤ 2147483647) ∧ ((0 ≤ (r4 + a4) ∧ (r4 + a4) < (w0.2 2).1) ∧ ((-2147483648 ≤ ((w0.2 2).2 (r2 + a4)) + ((w0.2 2).2 (r4 + a4)) ∧ ((w0.2 2).2 (r2 + a4)) + ((w0.2 2).2 (r4 + a4)) ≤ 2147483647) ∧ ((-2147483648 ≤ -(((a3 + 1) - a1) - (a2 - a3)) ∧ -(((a3 + 1) - a1) - (a2 - a3)) ≤ 2147483647) ∧ ((-2147483648 ≤ (w0.1 1) * (if 0 ≤ (((a3 + 1) - a1) - (a2 - a3)) then (((a3 + 1) - a1) - (a2 - a3)) else 0 - (((a3 + 1) - a1) - (a2 - a3))) ∧ (w0.1 1) * (if 0 ≤ (((a3 + 1) - a1) - (a2 - a3)) then (((a3 + 1) - a1) - (a2 - a3)) else 0 - (((a3 + 1) - a1) - (a2 - a3))) ≤ 2147483647) ∧ ((-2147483648 ≤ (((w0.2 2).2 (r2 + a4)) + ((w0.2 2).2 (r4 + a4))) + ((w0.1 1) * (if 0 ≤ (((a3 + 1) - a1) - (a2 - a3)) then (((a3 + 1) - a1) - (a2 - a3)) else 0 - (((a3 + 1) - a1) - (a2 - a3)))) ∧ (((w0.2 2).2 (r2 + a4)) + ((w0.2 2).2 (r4 + a4))) + ((w0.1 1) * (if 0 ≤ (((a3 + 1) - a1) - (a2 - a3)) then (((a3 + 1) - a1) - (a2 - a3)) else 0 - (((a3 + 1) - a1) - (a2 - a3)))) ≤ 2147483647) ∧ Post (some (ab_I ((((w0.2 2).2 (r2 + a4)) + ((w0.2 2).2 (r4 + a4))) + ((w0.1 1) * (if 0 ≤ (((a3 + 1) - a1) - (a2 - a3)) then (((a3 + 1) - a1) - (a2 - a3)) else 0 - (((a3 + 1) - a1) - (a2 - a3))))))) [w0])))))))))))))))))) :
    ab_J x 0 [some (ab_O 0), some (ab_I a1), some (ab_I a2), some (ab_I a3), some (ab_I a4), none] [] [w0] kc ks := ab_go hx kX1_splitAt.2 40 [] 0 h
def mX1_leastSplitAt : ab_M := ((yX1_leastSplitAt, cX1_leastSplitAt, 6, (some .int)), ([1], [(0, 0)], [false], false, false, 0), (false, 1, 3))
def rX1_leastSplitAt : List ab_R := [(0, .aload_n 0, 1, 0, 0, 0, [], none),
  (1, .iload_n 1, 1, 0, 0, 0, [], none),
  (2, .iload_n 2, 1, 0, 0, 0, [], none),
  (3, .iload_n 3, 1, 0, 0, 0, [], none),
  (4, .iload_n 1, 1, 0, 0, 0, [], none),
  (5, .invokevirtual 63, 3, 0, 0, 0, [], some mX1_splitAt),
  (8, .istore 4, 2, 0, 0, 0, [], none),
  (10, .iload_n 1, 1, 0, 0, 0, [], none),
  (11, .iconst 1, 1, 0, 0, 0, [], none),
  (12, .iadd, 1, 0, 0, 0, [], none),
  (13, .istore 5, 2, 0, 0, 0, [], none),
  (15, .iload 5, 2, 0, 0, 0, [], none),
  (17, .iload_n 2, 1, 0, 0, 0, [], none),
  (18, .if_icmp .gt 25, 3, 0, 0, 0, [43], none),
  (21, .iload 4, 2, 0, 0, 0, [], none),
  (23, .aload_n 0, 1, 0, 0, 0, [], none),
  (24, .iload_n 1, 1, 0, 0, 0, [], none),
  (25, .iload_n 2, 1, 0, 0, 0, [], none),
  (26, .iload_n 3, 1, 0, 0, 0, [], none),
  (27, .iload 5, 2, 0, 0, 0, [], none),
  (29, .invokevirtual 63, 3, 0, 0, 0, [], some mX1_splitAt),
  (32, .invokestatic 66, 3, 0, 0, 11, [], none),
  (35, .istore 4, 2, 0, 0, 0, [], none),
  (37, .iinc 5 1, 3, 0, 0, 0, [], none),
  (40, .goto (-25), 3, 0, 0, 0, [15], none),
  (43, .iload 4, 2, 0, 0, 0, [], none),
  (45, .ireturn, 1, 0, 0, 0, [], none)]
set_option maxRecDepth 100000 in
theorem kX1_leastSplitAt : ab_def_ok mX1_leastSplitAt rX1_leastSplitAt := ⟨ab_mok_of 805 103 803 804 (by decide +kernel), [0, 0, 0, 0, 0, 712, 0, 0, 0, 0, 0, 0, 0, 0, 0, 0, 0, 0, 0, 0, 712, 806, 0, 0, 0, 0, 0], by decide +kernel⟩
set_option maxRecDepth 100000 in
theorem vX1_leastSplitAt_0 {x : ab_Cx} {d mc ms : Nat} {Post : Option ab_V → List ab_Ob → Prop} (hx : ab_At x mX1_leastSplitAt d mc ms Post) (a1 a2 a3 : Int) (w0 : ab_Ob) (kc ks : Nat)
    (h : (∃ Q1 : Option ab_V → List ab_Ob → Prop, ab_Ct d 0 0 mX1_splitAt [ab_O 0, ab_I a1, ab_I a2, ab_I a3, ab_I a1] [w0] Q1 ∧ (∀ r2 : Int, Q1 (some (ab_I r2)) [w0] → ((-2147483648 ≤ a1 + 1 ∧ a1 + 1 ≤ 2147483647) ∧ ab_J x 15 [some (ab_O 0), some (ab_I a1), some (ab_I a2), some (ab_I a3), some (ab_I r2), some (ab_I (a1 + 1))] [] [w0] kc ks)))) :
    ab_J x 0 [some (ab_O 0), some (ab_I a1), some (ab_I a2), some (ab_I a3), none, none] [] [w0] kc ks := ab_go hx kX1_leastSplitAt.2 16 [(15, [true, true, true, true, true, true])] 0 h
set_option maxRecDepth 100000 in
theorem vX1_leastSplitAt_15 {x : ab_Cx} {d mc ms : Nat} {Post : Option ab_V → List ab_Ob → Prop} (hx : ab_At x mX1_leastSplitAt d mc ms Post) (l1 l2 l3 l4 l5 : Int) (w0 : ab_Ob) (kc ks : Nat)
    (h : ((l2 < l5 → Post (some (ab_I l4)) [w0]) ∧ (¬ l2 < l5 → (∃ Q1 : Option ab_V → List ab_Ob → Prop, ab_Ct d 0 0 mX1_splitAt [ab_O 0, ab_I l1, ab_I l2, ab_I l3, ab_I l5] [w0] Q1 ∧ (∀ r2 : Int, Q1 (some (ab_I r2)) [w0] → ((-2147483648 ≤ l5 + 1 ∧ l5 + 1 ≤ 2147483647) ∧ ab_J x 15 [some (ab_O 0), some (ab_I l1), some (ab_I l2), some (ab_I l3), some (ab_I (if r2 < l4 then r2 else l4)), some (ab_I (l5 + 1))] [] [w0] kc ks)))))) :
    ab_J x 15 [some (ab_O 0), some (ab_I l1), some (ab_I l2), some (ab_I l3), some (ab_I l4), some (ab_I l5)] [] [w0] kc ks := ab_go hx kX1_leastSplitAt.2 19 [(15, [true, true, true, true, true, true])] 15 h
def mX1_bestSplit : ab_M := ((yX1_bestSplit, cX1_bestSplit, 6, (some .int)), ([1], [(0, 0)], [false], false, false, 0), (false, 1, 3))
def rX1_bestSplit : List ab_R := [(0, .aload_n 0, 1, 0, 0, 0, [], none),
  (1, .iload_n 1, 1, 0, 0, 0, [], none),
  (2, .iload_n 2, 1, 0, 0, 0, [], none),
  (3, .iload_n 3, 1, 0, 0, 0, [], none),
  (4, .invokevirtual 54, 3, 0, 0, 0, [], some mX1_cell),
  (7, .istore 4, 2, 0, 0, 0, [], none),
  (9, .iload_n 1, 1, 0, 0, 0, [], none),
  (10, .istore 5, 2, 0, 0, 0, [], none),
  (12, .iload 5, 2, 0, 0, 0, [], none),
  (14, .iconst 1, 1, 0, 0, 0, [], none),
  (15, .iadd, 1, 0, 0, 0, [], none),
  (16, .iload_n 2, 1, 0, 0, 0, [], none),
  (17, .if_icmp .ge 23, 3, 0, 0, 0, [40], none),
  (20, .aload_n 0, 1, 0, 0, 0, [], none),
  (21, .iload_n 1, 1, 0, 0, 0, [], none),
  (22, .iload_n 2, 1, 0, 0, 0, [], none),
  (23, .iload 5, 2, 0, 0, 0, [], none),
  (25, .iload_n 3, 1, 0, 0, 0, [], none),
  (26, .invokevirtual 63, 3, 0, 0, 0, [], some mX1_splitAt),
  (29, .iload 4, 2, 0, 0, 0, [], none),
  (31, .if_icmp .eq 9, 3, 0, 0, 0, [40], none),
  (34, .iinc 5 1, 3, 0, 0, 0, [], none),
  (37, .goto (-25), 3, 0, 0, 0, [12], none),
  (40, .iload 5, 2, 0, 0, 0, [], none),
  (42, .ireturn, 1, 0, 0, 0, [], none)]
set_option maxRecDepth 100000 in
theorem kX1_bestSplit : ab_def_ok mX1_bestSplit rX1_bestSplit := ⟨ab_mok_of 707 103 705 706 (by decide +kernel), [0, 0, 0, 0, 708, 0, 0, 0, 0, 0, 0, 0, 0, 0, 0, 0, 0, 0, 712, 0, 0, 0, 0, 0, 0], by decide +kernel⟩
set_option maxRecDepth 100000 in
theorem vX1_bestSplit_0 {x : ab_Cx} {d mc ms : Nat} {Post : Option ab_V → List ab_Ob → Prop} (hx : ab_At x mX1_bestSplit d mc ms Post) (a1 a2 a3 : Int) (w0 : ab_Ob) (kc ks : Nat)
    (h : (∃ Q1 : Option ab_V → List ab_Ob → Prop, ab_Ct d 0 0 mX1_cell [ab_O 0, ab_I a1, ab_I a2, ab_I a3] [w0] Q1 ∧ (∀ r2 : Int, Q1 (some (ab_I r2)) [w0] → ab_J x 12 [some (ab_O 0), some (ab_I a1), some (ab_I a2), some (ab_I a3), some (ab_I r2), some (ab_I a1)] [] [w0] kc ks))) :
    ab_J x 0 [some (ab_O 0), some (ab_I a1), some (ab_I a2), some (ab_I a3), none, none] [] [w0] kc ks := ab_go hx kX1_bestSplit.2 13 [(12, [true, true, true, true, true, true])] 0 h
set_option maxRecDepth 100000 in
theorem vX1_bestSplit_12 {x : ab_Cx} {d mc ms : Nat} {Post : Option ab_V → List ab_Ob → Prop} (hx : ab_At x mX1_bestSplit d mc ms Post) (l1 l2 l3 l4 l5 : Int) (w0 : ab_Ob) (kc ks : Nat)
    (h : ((-2147483648 ≤ l5 + 1 ∧ l5 + 1 ≤ 2147483647) ∧ ((l2 ≤ (l5 + 1) → Post (some (ab_I l5)) [w0]) ∧ (¬ l2 ≤ (l5 + 1) → (∃ Q1 : Option ab_V → List ab_Ob → Prop, ab_Ct d 0 0 mX1_splitAt [ab_O 0, ab_I l1, ab_I l2, ab_I l5, ab_I l3] [w0] Q1 ∧ (∀ r2 : Int, Q1 (some (ab_I r2)) [w0] → ((r2 = l4 → Post (some (ab_I l5)) [w0]) ∧ (¬ r2 = l4 → ((-2147483648 ≤ l5 + 1 ∧ l5 + 1 ≤ 2147483647) ∧ ab_J x 12 [some (ab_O 0), some (ab_I l1), some (ab_I l2), some (ab_I l3), some (ab_I l4), some (ab_I (l5 + 1))] [] [w0] kc ks))))))))) :
    ab_J x 12 [some (ab_O 0), some (ab_I l1), some (ab_I l2), some (ab_I l3), some (ab_I l4), some (ab_I l5)] [] [w0] kc ks := ab_go hx kX1_bestSplit.2 20 [(12, [true, true, true, true, true, true])] 12 h
def mX1_underAt : ab_M := ((yX1_underAt, cX1_underAt, 5, (some .int)), ([1], [(0, 0)], [false], false, false, 0), (false, 1, 4))
def rX1_underAt : List ab_R := [(0, .aload_n 0, 1, 0, 0, 0, [], none),
  (1, .getfield 18, 3, 1, 2, 0, [], none),
  (4, .iload_n 1, 1, 0, 0, 0, [], none),
  (5, .iload_n 2, 1, 0, 0, 0, [], none),
  (6, .invokestatic 25, 3, 0, 0, 0, [], some mX1_row),
  (9, .iload 4, 2, 0, 0, 0, [], none),
  (11, .iadd, 1, 0, 0, 0, [], none),
  (12, .iaload, 1, 0, 0, 0, [], none),
  (13, .aload_n 0, 1, 0, 0, 0, [], none),
  (14, .getfield 22, 3, 1, 3, 0, [], none),
  (17, .iload_n 3, 1, 0, 0, 0, [], none),
  (18, .bipush 24, 2, 0, 0, 0, [], none),
  (20, .imul, 1, 0, 0, 0, [], none),
  (21, .iload 4, 2, 0, 0, 0, [], none),
  (23, .iadd, 1, 0, 0, 0, [], none),
  (24, .iaload, 1, 0, 0, 0, [], none),
  (25, .iadd, 1, 0, 0, 0, [], none),
  (26, .ireturn, 1, 0, 0, 0, [], none)]
set_option maxRecDepth 100000 in
theorem kX1_underAt : ab_def_ok mX1_underAt rX1_underAt := ⟨ab_mok_of 724 103 722 723 (by decide +kernel), [0, 263, 0, 0, 676, 0, 0, 0, 0, 264, 0, 0, 0, 0, 0, 0, 0, 0], by decide +kernel⟩
set_option maxRecDepth 100000 in
theorem vX1_underAt_0 {x : ab_Cx} {d mc ms : Nat} {Post : Option ab_V → List ab_Ob → Prop} (hx : ab_At x mX1_underAt d mc ms Post) (a1 a2 a3 a4 : Int) (w0 : ab_Ob) (kc ks : Nat)
    (h : (∃ Q1 : Option ab_V → List ab_Ob → Prop, ab_Ct d 0 0 mX1_row [ab_I a1, ab_I a2] [] Q1 ∧ (∀ r2 : Int, Q1 (some (ab_I r2)) [] → ((-2147483648 ≤ r2 + a4 ∧ r2 + a4 ≤ 2147483647) ∧ ((0 ≤ (r2 + a4) ∧ (r2 + a4) < (w0.2 2).1) ∧ ((-2147483648 ≤ a3 * 24 ∧ a3 * 24 ≤ 2147483647) ∧ ((-2147483648 ≤ (a3 * 24) + a4 ∧ (a3 * 24) + a4 ≤ 2147483647) ∧ ((0 ≤ ((a3 * 24) + a4) ∧ ((a3 * 24) + a4) < (w0.2 3).1) ∧ ((-2147483648 ≤ ((w0.2 2).2 (r2 + a4)) + ((w0.2 3).2 ((a3 * 24) + a4)) ∧ ((w0.2 2).2 (r2 + a4)) + ((w0.2 3).2 ((a3 * 24) + a4)) ≤ 2147483647) ∧ Post (some (ab_I (((w0.2 2).2 (r2 + a4)) + ((w0.2 3).2 ((a3 * 24) + a4))))) [w0]))))))))) :
    ab_J x 0 [some (ab_O 0), some (ab_I a1), some (ab_I a2), some (ab_I a3), some (ab_I a4)] [] [w0] kc ks := ab_go hx kX1_underAt.2 22 [] 0 h
def mX1_bestUnder : ab_M := ((yX1_bestUnder, cX1_bestUnder, 6, (some .int)), ([1], [(0, 0)], [false], false, false, 0), (false, 1, 3))
def rX1_bestUnder : List ab_R := [(0, .aload_n 0, 1, 0, 0, 0, [], none),
  (1, .iload_n 1, 1, 0, 0, 0, [], none),
  (2, .iload_n 2, 1, 0, 0, 0, [], none),
  (3, .iload_n 3, 1, 0, 0, 0, [], none),
  (4, .invokevirtual 54, 3, 0, 0, 0, [], some mX1_cell),
  (7, .istore 4, 2, 0, 0, 0, [], none),
  (9, .iload_n 1, 1, 0, 0, 0, [], none),
  (10, .istore 5, 2, 0, 0, 0, [], none),
  (12, .iload 5, 2, 0, 0, 0, [], none),
  (14, .iload_n 2, 1, 0, 0, 0, [], none),
  (15, .if_icmp .ge 23, 3, 0, 0, 0, [38], none),
  (18, .aload_n 0, 1, 0, 0, 0, [], none),
  (19, .iload_n 1, 1, 0, 0, 0, [], none),
  (20, .iload_n 2, 1, 0, 0, 0, [], none),
  (21, .iload_n 3, 1, 0, 0, 0, [], none),
  (22, .iload 5, 2, 0, 0, 0, [], none),
  (24, .invokevirtual 69, 3, 0, 0, 0, [], some mX1_underAt),
  (27, .iload 4, 2, 0, 0, 0, [], none),
  (29, .if_icmp .eq 9, 3, 0, 0, 0, [38], none),
  (32, .iinc 5 1, 3, 0, 0, 0, [], none),
  (35, .goto (-23), 3, 0, 0, 0, [12], none),
  (38, .iload 5, 2, 0, 0, 0, [], none),
  (40, .ireturn, 1, 0, 0, 0, [], none)]
set_option maxRecDepth 100000 in
theorem kX1_bestUnder : ab_def_ok mX1_bestUnder rX1_bestUnder := ⟨ab_mok_of 720 103 718 719 (by decide +kernel), [0, 0, 0, 0, 708, 0, 0, 0, 0, 0, 0, 0, 0, 0, 0, 0, 721, 0, 0, 0, 0, 0, 0], by decide +kernel⟩
set_option maxRecDepth 100000 in
theorem vX1_bestUnder_0 {x : ab_Cx} {d mc ms : Nat} {Post : Option ab_V → List ab_Ob → Prop} (hx : ab_At x mX1_bestUnder d mc ms Post) (a1 a2 a3 : Int) (w0 : ab_Ob) (kc ks : Nat)
    (h : (∃ Q1 : Option ab_V → List ab_Ob → Prop, ab_Ct d 0 0 mX1_cell [ab_O 0, ab_I a1, ab_I a2, ab_I a3] [w0] Q1 ∧ (∀ r2 : Int, Q1 (some (ab_I r2)) [w0] → ab_J x 12 [some (ab_O 0), some (ab_I a1), some (ab_I a2), some (ab_I a3), some (ab_I r2), some (ab_I a1)] [] [w0] kc ks))) :
    ab_J x 0 [some (ab_O 0), some (ab_I a1), some (ab_I a2), some (ab_I a3), none, none] [] [w0] kc ks := ab_go hx kX1_bestUnder.2 13 [(12, [true, true, true, true, true, true])] 0 h
set_option maxRecDepth 100000 in
theorem vX1_bestUnder_12 {x : ab_Cx} {d mc ms : Nat} {Post : Option ab_V → List ab_Ob → Prop} (hx : ab_At x mX1_bestUnder d mc ms Post) (l1 l2 l3 l4 l5 : Int) (w0 : ab_Ob) (kc ks : Nat)
    (h : ((l2 ≤ l5 → Post (some (ab_I l5)) [w0]) ∧ (¬ l2 ≤ l5 → (∃ Q1 : Option ab_V → List ab_Ob → Prop, ab_Ct d 0 0 mX1_underAt [ab_O 0, ab_I l1, ab_I l2, ab_I l3, ab_I l5] [w0] Q1 ∧ (∀ r2 : Int, Q1 (some (ab_I r2)) [w0] → ((r2 = l4 → Post (some (ab_I l5)) [w0]) ∧ (¬ r2 = l4 → ((-2147483648 ≤ l5 + 1 ∧ l5 + 1 ≤ 2147483647) ∧ ab_J x 12 [some (ab_O 0), some (ab_I l1), some (ab_I l2), some (ab_I l3), some (ab_I l4), some (ab_I (l5 + 1))] [] [w0] kc ks)))))))) :
    ab_J x 12 [some (ab_O 0), some (ab_I l1), some (ab_I l2), some (ab_I l3), some (ab_I l4), some (ab_I l5)] [] [w0] kc ks := ab_go hx kX1_bestUnder.2 18 [(12, [true, true, true, true, true, true])] 12 h
