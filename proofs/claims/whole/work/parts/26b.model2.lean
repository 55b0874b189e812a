def mX9_strength : ab_M := ((yX9_strength, cX9_strength, 3, (some .int)), ([9], [(0, 0)], [false], false, false, 0), (false, 9, 1))
def rX9_strength : List ab_R := [(0, .aload_n 0, 1, 0, 0, 0, [], none),
  (1, .iload_n 1, 1, 0, 0, 0, [], none),
  (2, .invokevirtual 261, 3, 0, 0, 0, [], some mX9_beginOf),
  (5, .istore_n 2, 1, 0, 0, 0, [], none),
  (6, .iload_n 2, 1, 0, 0, 0, [], none),
  (7, .aload_n 0, 1, 0, 0, 0, [], none),
  (8, .getfield 242, 3, 9, 6, 0, [], none),
  (11, .irem, 1, 0, 0, 0, [], none),
  (12, .ifCond .ne 7, 3, 0, 0, 0, [19], none),
  (15, .iconst 3, 1, 0, 0, 0, [], none),
  (16, .goto 32, 3, 0, 0, 0, [48], none),
  (19, .iconst 2, 1, 0, 0, 0, [], none),
  (20, .iload_n 2, 1, 0, 0, 0, [], none),
  (21, .imul, 1, 0, 0, 0, [], none),
  (22, .aload_n 0, 1, 0, 0, 0, [], none),
  (23, .getfield 242, 3, 9, 6, 0, [], none),
  (26, .irem, 1, 0, 0, 0, [], none),
  (27, .ifCond .ne 7, 3, 0, 0, 0, [34], none),
  (30, .iconst 2, 1, 0, 0, 0, [], none),
  (31, .goto 17, 3, 0, 0, 0, [48], none),
  (34, .iload_n 2, 1, 0, 0, 0, [], none),
  (35, .aload_n 0, 1, 0, 0, 0, [], none),
  (36, .getfield 244, 3, 9, 7, 0, [], none),
  (39, .irem, 1, 0, 0, 0, [], none),
  (40, .ifCond .ne 7, 3, 0, 0, 0, [47], none),
  (43, .iconst 1, 1, 0, 0, 0, [], none),
  (44, .goto 4, 3, 0, 0, 0, [48], none),
  (47, .iconst 0, 1, 0, 0, 0, [], none),
  (48, .ireturn, 1, 0, 0, 0, [], none)]
set_option maxRecDepth 100000 in
theorem kX9_strength : ab_def_ok mX9_strength rX9_strength := ⟨ab_mok_of 1449 108 1448 61 (by decide +kernel), [0, 0, 1450, 0, 0, 0, 1198, 0, 0, 0, 0, 0, 0, 0, 0, 1198, 0, 0, 0, 0, 0, 0, 1199, 0, 0, 0, 0, 0, 0], by decide +kernel⟩
set_option maxRecDepth 100000 in
theorem vX9_strength_0 {x : ab_Cx} {d mc ms : Nat} {Post : Option ab_V → List ab_Ob → Prop} (hx : ab_At x mX9_strength d mc ms Post) (a1 : Int) (w0 : ab_Ob) (kc ks : Nat)
    (h : (∃ Q1 : Option ab_V → List ab_Ob → Prop, ab_Ct d 0 0 mX9_beginOf [ab_O 0, ab_I a1] [w0] Q1 ∧ (∀ r2 : Int, Q1 (some (ab_I r2)) [w0] → ((¬ w0.1 6 = 0) ∧ ((-2147483648 ≤ (Int.tmod r2 (w0.1 6)) ∧ (Int.tmod r2 (w0.1 6)) ≤ 2147483647) ∧ ((¬ (Int.tmod r2 (w0.1 6)) = 0 → ((-2147483648 ≤ 2 * r2 ∧ 2 * r2 ≤ 2147483647) ∧ ((¬ w0.1 6 = 0) ∧ ((-2147483648 ≤ (Int.tmod (2 * r2) (w0.1 6)) ∧ (Int.tmod (2 * r2) (w0.1 6)) ≤ 2147483647) ∧ ((¬ (Int.tmod (2 * r2) (w0.1 6)) = 0 → ((¬ w0.1 7 = 0) ∧ ((-2147483648 ≤ (Int.tmod r2 (w0.1 7)) ∧ (Int.tmod r2 (w0.1 7)) ≤ 2147483647) ∧ ((¬ (Int.tmod r2 (w0.1 7)) = 0 → Post (some (ab_I 0)) [w0]) ∧ ((Int.tmod r2 (w0.1 7)) = 0 → Post (some (ab_I 1)) [w0]))))) ∧ ((Int.tmod (2 * r2) (w0.1 6)) = 0 → Post (some (ab_I 2)) [w0])))))) ∧ ((Int.tmod r2 (w0.1 6)) = 0 → Post (some (ab_I 3)) [w0]))))))) :
    ab_J x 0 [some (ab_O 0), some (ab_I a1), none] [] [w0] kc ks := ab_go hx kX9_strength.2 28 [] 0 h
def mX9_pitchOf : ab_M := ((yX9_pitchOf, cX9_pitchOf, 2, (some .int)), ([9], [(0, 0)], [false], false, false, 0), (false, 9, 1))
def rX9_pitchOf : List ab_R := [(0, .aload_n 0, 1, 0, 0, 0, [], none),
  (1, .getfield 13, 3, 9, 3, 0, [], none),
  (4, .iconst 0, 1, 0, 0, 0, [], none),
  (5, .iload_n 1, 1, 0, 0, 0, [], none),
  (6, .iadd, 1, 0, 0, 0, [], none),
  (7, .iaload, 1, 0, 0, 0, [], none),
  (8, .ireturn, 1, 0, 0, 0, [], none)]
set_option maxRecDepth 100000 in
theorem kX9_pitchOf : ab_def_ok mX9_pitchOf rX9_pitchOf := ⟨ab_mok_of 1465 108 1464 65 (by decide +kernel), [0, 1195, 0, 0, 0, 0, 0], by decide +kernel⟩
set_option maxRecDepth 100000 in
theorem vX9_pitchOf_0 {x : ab_Cx} {d mc ms : Nat} {Post : Option ab_V → List ab_Ob → Prop} (hx : ab_At x mX9_pitchOf d mc ms Post) (a1 : Int) (w0 : ab_Ob) (kc ks : Nat)
    (h : ((-2147483648 ≤ 0 + a1 ∧ 0 + a1 ≤ 2147483647) ∧ ((0 ≤ (0 + a1) ∧ (0 + a1) < (w0.2 3).1) ∧ Post (some (ab_I ((w0.2 3).2 (0 + a1)))) [w0]))) :
    ab_J x 0 [some (ab_O 0), some (ab_I a1)] [] [w0] kc ks := ab_go hx kX9_pitchOf.2 11 [] 0 h
def mX9_stable : ab_M := ((yX9_stable, cX9_stable, 3, (some .int)), ([9], [(0, 0)], [false], false, false, 0), (false, 9, 1))
def rX9_stable : List ab_R := [(0, .aload_n 0, 1, 0, 0, 0, [], none),
  (1, .iload_n 1, 1, 0, 0, 0, [], none),
  (2, .invokevirtual 264, 3, 0, 0, 0, [], some mX9_pitchOf),
  (5, .aload_n 0, 1, 0, 0, 0, [], none),
  (6, .getfield 13, 3, 9, 3, 0, [], none),
  (9, .bipush 54, 2, 0, 0, 0, [], none),
  (11, .iaload, 1, 0, 0, 0, [], none),
  (12, .isub, 1, 0, 0, 0, [], none),
  (13, .bipush 12, 2, 0, 0, 0, [], none),
  (15, .iadd, 1, 0, 0, 0, [], none),
  (16, .bipush 12, 2, 0, 0, 0, [], none),
  (18, .irem, 1, 0, 0, 0, [], none),
  (19, .istore_n 2, 1, 0, 0, 0, [], none),
  (20, .iload_n 2, 1, 0, 0, 0, [], none),
  (21, .ifCond .ne 7, 3, 0, 0, 0, [28], none),
  (24, .iconst 2, 1, 0, 0, 0, [], none),
  (25, .goto 19, 3, 0, 0, 0, [44], none),
  (28, .iload_n 2, 1, 0, 0, 0, [], none),
  (29, .iconst 4, 1, 0, 0, 0, [], none),
  (30, .if_icmp .eq 9, 3, 0, 0, 0, [39], none),
  (33, .iload_n 2, 1, 0, 0, 0, [], none),
  (34, .bipush 7, 2, 0, 0, 0, [], none),
  (36, .if_icmp .ne 7, 3, 0, 0, 0, [43], none),
  (39, .iconst 1, 1, 0, 0, 0, [], none),
  (40, .goto 4, 3, 0, 0, 0, [44], none),
  (43, .iconst 0, 1, 0, 0, 0, [], none),
  (44, .ireturn, 1, 0, 0, 0, [], none)]
set_option maxRecDepth 100000 in
theorem kX9_stable : ab_def_ok mX9_stable rX9_stable := ⟨ab_mok_of 1461 108 1460 64 (by decide +kernel), [0, 0, 1462, 0, 1195, 0, 0, 0, 0, 0, 0, 0, 0, 0, 0, 0, 0, 0, 0, 0, 0, 0, 0, 0, 0, 0, 0], by decide +kernel⟩
set_option maxRecDepth 100000 in
theorem vX9_stable_0 {x : ab_Cx} {d mc ms : Nat} {Post : Option ab_V → List ab_Ob → Prop} (hx : ab_At x mX9_stable d mc ms Post) (a1 : Int) (w0 : ab_Ob) (kc ks : Nat)
    (h : (∃ Q1 : Option ab_V → List ab_Ob → Prop, ab_Ct d 0 0 mX9_pitchOf [ab_O 0, ab_I a1] [w0] Q1 ∧ (∀ r2 : Int, Q1 (some (ab_I r2)) [w0] → ((0 ≤ (54 : Int) ∧ (54 : Int) < (w0.2 3).1) ∧ ((-2147483648 ≤ r2 - ((w0.2 3).2 54) ∧ r2 - ((w0.2 3).2 54) ≤ 2147483647) ∧ ((-2147483648 ≤ (r2 - ((w0.2 3).2 54)) + 12 ∧ (r2 - ((w0.2 3).2 54)) + 12 ≤ 2147483647) ∧ ((¬ (12 : Int) = 0) ∧ ((-2147483648 ≤ (Int.tmod ((r2 - ((w0.2 3).2 54)) + 12) 12) ∧ (Int.tmod ((r2 - ((w0.2 3).2 54)) + 12) 12) ≤ 2147483647) ∧ ((¬ (Int.tmod ((r2 - ((w0.2 3).2 54)) + 12) 12) = 0 → (((Int.tmod ((r2 - ((w0.2 3).2 54)) + 12) 12) = 4 → Post (some (ab_I 1)) [w0]) ∧ (¬ (Int.tmod ((r2 - ((w0.2 3).2 54)) + 12) 12) = 4 → ((¬ (Int.tmod ((r2 - ((w0.2 3).2 54)) + 12) 12) = 7 → Post (some (ab_I 0)) [w0]) ∧ ((Int.tmod ((r2 - ((w0.2 3).2 54)) + 12) 12) = 7 → Post (some (ab_I 1)) [w0]))))) ∧ ((Int.tmod ((r2 - ((w0.2 3).2 54)) + 12) 12) = 0 → Post (some (ab_I 2)) [w0])))))))))) :
    ab_J x 0 [some (ab_O 0), some (ab_I a1), none] [] [w0] kc ks := ab_go hx kX9_stable.2 28 [] 0 h
def mX9_cube : ab_M := ((yX9_cube, cX9_cube, 3, (some .int)), ([], [], [], false, false, 0), (true, 9, 3))
def rX9_cube : List ab_R := [(0, .iload_n 0, 1, 0, 0, 0, [], none),
  (1, .bipush 24, 2, 0, 0, 0, [], none),
  (3, .imul, 1, 0, 0, 0, [], none),
  (4, .iload_n 1, 1, 0, 0, 0, [], none),
  (5, .iadd, 1, 0, 0, 0, [], none),
  (6, .bipush 24, 2, 0, 0, 0, [], none),
  (8, .imul, 1, 0, 0, 0, [], none),
  (9, .iload_n 2, 1, 0, 0, 0, [], none),
  (10, .iadd, 1, 0, 0, 0, [], none),
  (11, .ireturn, 1, 0, 0, 0, [], none)]
set_option maxRecDepth 100000 in
theorem kX9_cube : ab_def_ok mX9_cube rX9_cube := ⟨ab_mok_of 1472 108 1471 0 (by decide +kernel), [0, 0, 0, 0, 0, 0, 0, 0, 0, 0], by decide +kernel⟩
set_option maxRecDepth 100000 in
theorem vX9_cube_0 {x : ab_Cx} {d mc ms : Nat} {Post : Option ab_V → List ab_Ob → Prop} (hx : ab_At x mX9_cube d mc ms Post) (a0 a1 a2 : Int) (kc ks : Nat)
    (h : ((-2147483648 ≤ a0 * 24 ∧ a0 * 24 ≤ 2147483647) ∧ ((-2147483648 ≤ (a0 * 24) + a1 ∧ (a0 * 24) + a1 ≤ 2147483647) ∧ ((-2147483648 ≤ ((a0 * 24) + a1) * 24 ∧ ((a0 * 24) + a1) * 24 ≤ 2147483647) ∧ ((-2147483648 ≤ (((a0 * 24) + a1) * 24) + a2 ∧ (((a0 * 24) + a1) * 24) + a2 ≤ 2147483647) ∧ Post (some (ab_I ((((a0 * 24) + a1) * 24) + a2))) []))))) :
    ab_J x 0 [some (ab_I a0), some (ab_I a1), some (ab_I a2)] [] [] kc ks := ab_go hx kX9_cube.2 14 [] 0 h
def mX9_above : ab_M := ((yX9_above, cX9_above, 2, (some .int)), ([], [], [], false, false, 0), (true, 9, 2))
def rX9_above : List ab_R := [(0, .iload_n 0, 1, 0, 0, 0, [], none),
  (1, .iload_n 1, 1, 0, 0, 0, [], none),
  (2, .if_icmp .le 9, 3, 0, 0, 0, [11], none),
  (5, .iload_n 0, 1, 0, 0, 0, [], none),
  (6, .iload_n 1, 1, 0, 0, 0, [], none),
  (7, .isub, 1, 0, 0, 0, [], none),
  (8, .goto 4, 3, 0, 0, 0, [12], none),
  (11, .iconst 0, 1, 0, 0, 0, [], none),
  (12, .ireturn, 1, 0, 0, 0, [], none)]
set_option maxRecDepth 100000 in
theorem kX9_above : ab_def_ok mX9_above rX9_above := ⟨ab_mok_of 1492 108 1491 0 (by decide +kernel), [0, 0, 0, 0, 0, 0, 0, 0, 0], by decide +kernel⟩
set_option maxRecDepth 100000 in
theorem vX9_above_0 {x : ab_Cx} {d mc ms : Nat} {Post : Option ab_V → List ab_Ob → Prop} (hx : ab_At x mX9_above d mc ms Post) (a0 a1 : Int) (kc ks : Nat)
    (h : ((a0 ≤ a1 → Post (some (ab_I 0)) []) ∧ (¬ a0 ≤ a1 → ((-2147483648 ≤ a0 - a1 ∧ a0 - a1 ≤ 2147483647) ∧ Post (some (ab_I (a0 - a1))) [])))) :
    ab_J x 0 [some (ab_I a0), some (ab_I a1)] [] [] kc ks := ab_go hx kX9_above.2 12 [] 0 h
def mX9_apart : ab_M := ((yX9_apart, cX9_apart, 2, (some .int)), ([], [], [], false, false, 0), (true, 9, 2))
def rX9_apart : List ab_R := [(0, .iload_n 0, 1, 0, 0, 0, [], none),
  (1, .iload_n 1, 1, 0, 0, 0, [], none),
  (2, .if_icmp .le 9, 3, 0, 0, 0, [11], none),
  (5, .iload_n 0, 1, 0, 0, 0, [], none),
  (6, .iload_n 1, 1, 0, 0, 0, [], none),
  (7, .isub, 1, 0, 0, 0, [], none),
  (8, .goto 6, 3, 0, 0, 0, [14], none),
  (11, .iload_n 1, 1, 0, 0, 0, [], none),
  (12, .iload_n 0, 1, 0, 0, 0, [], none),
  (13, .isub, 1, 0, 0, 0, [], none),
  (14, .ireturn, 1, 0, 0, 0, [], none)]
set_option maxRecDepth 100000 in
theorem kX9_apart : ab_def_ok mX9_apart rX9_apart := ⟨ab_mok_of 1495 108 1494 0 (by decide +kernel), [0, 0, 0, 0, 0, 0, 0, 0, 0, 0, 0], by decide +kernel⟩
set_option maxRecDepth 100000 in
theorem vX9_apart_0 {x : ab_Cx} {d mc ms : Nat} {Post : Option ab_V → List ab_Ob → Prop} (hx : ab_At x mX9_apart d mc ms Post) (a0 a1 : Int) (kc ks : Nat)
    (h : ((a0 ≤ a1 → ((-2147483648 ≤ a1 - a0 ∧ a1 - a0 ≤ 2147483647) ∧ Post (some (ab_I (a1 - a0))) [])) ∧ (¬ a0 ≤ a1 → ((-2147483648 ≤ a0 - a1 ∧ a0 - a1 ≤ 2147483647) ∧ Post (some (ab_I (a0 - a1))) [])))) :
    ab_J x 0 [some (ab_I a0), some (ab_I a1)] [] [] kc ks := ab_go hx kX9_apart.2 12 [] 0 h
def mX9_brokenBy : ab_M := ((yX9_brokenBy, cX9_brokenBy, 7, (some .int)), ([9], [(0, 0)], [false], false, false, 0), (false, 9, 5))
def rX9_brokenBy : List ab_R := [(0, .iload_n 1, 1, 0, 0, 0, [], none),
  (1, .tableswitch 127 0 4 #[35, 55, 73, 93, 115], 35, 0, 0, 0, [128, 36, 56, 74, 94, 116], none),
  (36, .aload_n 0, 1, 0, 0, 0, [], none),
  (37, .getfield 27, 3, 9, 25, 0, [], none),
  (40, .iload_n 3, 1, 0, 0, 0, [], none),
  (41, .iaload, 1, 0, 0, 0, [], none),
  (42, .aload_n 0, 1, 0, 0, 0, [], none),
  (43, .getfield 27, 3, 9, 25, 0, [], none),
  (46, .iload_n 2, 1, 0, 0, 0, [], none),
  (47, .iaload, 1, 0, 0, 0, [], none),
  (48, .invokestatic 267, 3, 0, 0, 0, [], some mX9_above),
  (51, .istore 6, 2, 0, 0, 0, [], none),
  (53, .goto 92, 3, 0, 0, 0, [145], none),
  (56, .aload_n 0, 1, 0, 0, 0, [], none),
  (57, .iload_n 3, 1, 0, 0, 0, [], none),
  (58, .invokevirtual 258, 3, 0, 0, 0, [], some mX9_lasts),
  (61, .aload_n 0, 1, 0, 0, 0, [], none),
  (62, .iload_n 2, 1, 0, 0, 0, [], none),
  (63, .invokevirtual 258, 3, 0, 0, 0, [], some mX9_lasts),
  (66, .invokestatic 267, 3, 0, 0, 0, [], some mX9_above),
  (69, .istore 6, 2, 0, 0, 0, [], none),
  (71, .goto 74, 3, 0, 0, 0, [145], none),
  (74, .aload_n 0, 1, 0, 0, 0, [], none),
  (75, .getfield 30, 3, 9, 26, 0, [], none),
  (78, .iload_n 3, 1, 0, 0, 0, [], none),
  (79, .iaload, 1, 0, 0, 0, [], none),
  (80, .aload_n 0, 1, 0, 0, 0, [], none),
  (81, .getfield 30, 3, 9, 26, 0, [], none),
  (84, .iload_n 2, 1, 0, 0, 0, [], none),
  (85, .iaload, 1, 0, 0, 0, [], none),
  (86, .invokestatic 267, 3, 0, 0, 0, [], some mX9_above),
  (89, .istore 6, 2, 0, 0, 0, [], none),
  (91, .goto 54, 3, 0, 0, 0, [145], none),
  (94, .aload_n 0, 1, 0, 0, 0, [], none),
  (95, .iload_n 2, 1, 0, 0, 0, [], none),
  (96, .invokevirtual 264, 3, 0, 0, 0, [], some mX9_pitchOf),
  (99, .aload_n 0, 1, 0, 0, 0, [], none),
  (100, .iload_n 3, 1, 0, 0, 0, [], none),
  (101, .invokevirtual 264, 3, 0, 0, 0, [], some mX9_pitchOf),
  (104, .invokestatic 270, 3, 0, 0, 0, [], some mX9_apart),
  (107, .iconst 2, 1, 0, 0, 0, [], none),
  (108, .invokestatic 267, 3, 0, 0, 0, [], some mX9_above),
  (111, .istore 6, 2, 0, 0, 0, [], none),
  (113, .goto 32, 3, 0, 0, 0, [145], none),
  (116, .iload 4, 2, 0, 0, 0, [], none),
  (118, .iload 5, 2, 0, 0, 0, [], none),
  (120, .invokestatic 270, 3, 0, 0, 0, [], some mX9_apart),
  (123, .istore 6, 2, 0, 0, 0, [], none),
  (125, .goto 20, 3, 0, 0, 0, [145], none),
  (128, .iload_n 3, 1, 0, 0, 0, [], none),
  (129, .aload_n 0, 1, 0, 0, 0, [], none),
  (130, .getfield 246, 3, 9, 8, 0, [], none),
  (133, .iconst 1, 1, 0, 0, 0, [], none),
  (134, .isub, 1, 0, 0, 0, [], none),
  (135, .if_icmp .ne 7, 3, 0, 0, 0, [142], none),
  (138, .iconst 1, 1, 0, 0, 0, [], none),
  (139, .goto 4, 3, 0, 0, 0, [143], none),
  (142, .iconst 0, 1, 0, 0, 0, [], none),
  (143, .istore 6, 2, 0, 0, 0, [], none),
  (145, .iload 6, 2, 0, 0, 0, [], none),
  (147, .aload_n 0, 1, 0, 0, 0, [], none),
  (148, .getfield 13, 3, 9, 3, 0, [], none),
  (151, .bipush 48, 2, 0, 0, 0, [], none),
  (153, .iload_n 1, 1, 0, 0, 0, [], none),
  (154, .iadd, 1, 0, 0, 0, [], none),
  (155, .iaload, 1, 0, 0, 0, [], none),
  (156, .imul, 1, 0, 0, 0, [], none),
  (157, .ireturn, 1, 0, 0, 0, [], none)]
set_option maxRecDepth 100000 in
theorem kX9_brokenBy : ab_def_ok mX9_brokenBy rX9_brokenBy := ⟨ab_mok_of 1489 108 1488 70 (by decide +kernel), [0, 0, 0, 1217, 0, 0, 0, 1217, 0, 0, 1490, 0, 0, 0, 0, 1454, 0, 0, 1454, 1490, 0, 0, 0, 1218, 0, 0, 0, 1218, 0, 0, 1490, 0, 0, 0, 0, 1462, 0, 0, 1462, 1493, 0, 1490, 0, 0, 0, 0, 1493, 0, 0, 0, 0, 1200, 0, 0, 0, 0, 0, 0, 0, 0, 0, 1195, 0, 0, 0, 0, 0, 0], by decide +kernel⟩
set_option maxRecDepth 100000 in
theorem vX9_brokenBy_0 {x : ab_Cx} {d mc ms : Nat} {Post : Option ab_V → List ab_Ob → Prop} (hx : ab_At x mX9_brokenBy d mc ms Post) (a1 a2 a3 a4 a5 : Int) (w0 : ab_Ob) (kc ks : Nat)
    (h : ((a1 < 0 ∨ 4 < a1 → ((-2147483648 ≤ (w0.1 8) - 1 ∧ (w0.1 8) - 1 ≤ 2147483647) ∧ ((¬ a3 = ((w0.1 8) - 1) → ((-2147483648 ≤ 48 + a1 ∧ 48 + a1 ≤ 2147483647) ∧ ((0 ≤ (48 + a1) ∧ (48 + a1) < (w0.2 3).1) ∧ ((-2147483648 ≤ 0 * ((w0.2 3).2 (48 + a1)) ∧ 0 * ((w0.2 3).2 (48 + a1)) ≤ 2147483647) ∧ Post (some (ab_I (0 * ((w0.2 3).2 (48 + a1))))) [w0])))) ∧ (a3 = ((w0.1 8) - 1) → ((-2147483648 ≤ 48 + a1 ∧ 48 + a1 ≤ 2147483647) ∧ ((0 ≤ (48 + a1) ∧ (48 + a1) < (w0.2 3).1) ∧ ((-2147483648 ≤ 1 * ((w0.2 3).2 (48 + a1)) ∧ 1 * ((w0.2 3).2 (48 + a1)) ≤ 2147483647) ∧ Post (some (ab_I (1 * ((w0.2 3).2 (48 + a1))))) [w0]))))))) ∧ ((a1 = 0 → ((0 ≤ a3 ∧ a3 < (w0.2 25).1) ∧ ((0 ≤ a2 ∧ a2 < (w0.2 25).1) ∧ (∃ Q19 : Option ab_V → List ab_Ob → Prop, ab_Ct d 0 0 mX9_above [ab_I ((w0.2 25).2 a3), ab_I ((w0.2 25).2 a2)] [] Q19 ∧ (∀ r20 : Int, Q19 (some (ab_I r20)) [] → ((-2147483648 ≤ 48 + a1 ∧ 48 + a1 ≤ 2147483647) ∧ ((0 ≤ (48 + a1) ∧ (48 + a1) < (w0.2 3).1) ∧ ((-2147483648 ≤ r20 * ((w0.2 3).2 (48 + a1)) ∧ r20 * ((w0.2 3).2 (48 + a1)) ≤ 2147483647) ∧ Post (some (ab_I (r20 * ((w0.2 3).2 (48 + a1))))) [w0])))))))) ∧ ((a1 = 1 → (∃ Q13 : Option ab_V → List ab_Ob → Prop, ab_Ct d 0 0 mX9_lasts [ab_O 0, ab_I a3] [w0] Q13 ∧ (∀ r14 : Int, Q13 (some (ab_I r14)) [w0] → (∃ Q15 : Option ab_V → List ab_Ob → Prop, ab_Ct d 0 0 mX9_lasts [ab_O 0, ab_I a2] [w0] Q15 ∧ (∀ r16 : Int, Q15 (some (ab_I r16)) [w0] → (∃ Q17 : Option ab_V → List ab_Ob → Prop, ab_Ct d 0 0 mX9_above [ab_I r14, ab_I r16] [] Q17 ∧ (∀ r18 : Int, Q17 (some (ab_I r18)) [] → ((-2147483648 ≤ 48 + a1 ∧ 48 + a1 ≤ 2147483647) ∧ ((0 ≤ (48 + a1) ∧ (48 + a1) < (w0.2 3).1) ∧ ((-2147483648 ≤ r18 * ((w0.2 3).2 (48 + a1)) ∧ r18 * ((w0.2 3).2 (48 + a1)) ≤ 2147483647) ∧ Post (some (ab_I (r18 * ((w0.2 3).2 (48 + a1))))) [w0])))))))))) ∧ ((a1 = 2 → ((0 ≤ a3 ∧ a3 < (w0.2 26).1) ∧ ((0 ≤ a2 ∧ a2 < (w0.2 26).1) ∧ (∃ Q11 : Option ab_V → List ab_Ob → Prop, ab_Ct d 0 0 mX9_above [ab_I ((w0.2 26).2 a3), ab_I ((w0.2 26).2 a2)] [] Q11 ∧ (∀ r12 : Int, Q11 (some (ab_I r12)) [] → ((-2147483648 ≤ 48 + a1 ∧ 48 + a1 ≤ 2147483647) ∧ ((0 ≤ (48 + a1) ∧ (48 + a1) < (w0.2 3).1) ∧ ((-2147483648 ≤ r12 * ((w0.2 3).2 (48 + a1)) ∧ r12 * ((w0.2 3).2 (48 + a1)) ≤ 2147483647) ∧ Post (some (ab_I (r12 * ((w0.2 3).2 (48 + a1))))) [w0])))))))) ∧ ((a1 = 3 → (∃ Q3 : Option ab_V → List ab_Ob → Prop, ab_Ct d 0 0 mX9_pitchOf [ab_O 0, ab_I a2] [w0] Q3 ∧ (∀ r4 : Int, Q3 (some (ab_I r4)) [w0] → (∃ Q5 : Option ab_V → List ab_Ob → Prop, ab_Ct d 0 0 mX9_pitchOf [ab_O 0, ab_I a3] [w0] Q5 ∧ (∀ r6 : Int, Q5 (some (ab_I r6)) [w0] → (∃ Q7 : Option ab_V → List ab_Ob → Prop, ab_Ct d 0 0 mX9_apart [ab_I r4, ab_I r6] [] Q7 ∧ (∀ r8 : Int, Q7 (some (ab_I r8)) [] → (∃ Q9 : Option ab_V → List ab_Ob → Prop, ab_Ct d 0 0 mX9_above [ab_I r8, ab_I 2] [] Q9 ∧ (∀ r10 : Int, Q9 (some (ab_I r10)) [] → ((-2147483648 ≤ 48 + a1 ∧ 48 + a1 ≤ 2147483647) ∧ ((0 ≤ (48 + a1) ∧ (48 + a1) < (w0.2 3).1) ∧ ((-2147483648 ≤ r10 * ((w0.2 3).2 (48 + a1)) ∧ r10 * ((w0.2 3).2 (48 + a1)) ≤ 2147483647) ∧ Post (some (ab_I (r10 * ((w0.2 3).2 (48 + a1))))) [w0])))))))))))) ∧ ((a1 = 4 → (∃ Q1 : Option ab_V → List ab_Ob → Prop, ab_Ct d 0 0 mX9_apart [ab_I a4, ab_I a5] [] Q1 ∧ (∀ r2 : Int, Q1 (some (ab_I r2)) [] → ((-2147483648 ≤ 48 + a1 ∧ 48 + a1 ≤ 2147483647) ∧ ((0 ≤ (48 + a1) ∧ (48 + a1) < (w0.2 3).1) ∧ ((-2147483648 ≤ r2 * ((w0.2 3).2 (48 + a1)) ∧ r2 * ((w0.2 3).2 (48 + a1)) ≤ 2147483647) ∧ Post (some (ab_I (r2 * ((w0.2 3).2 (48 + a1))))) [w0])))))) ∧ True))))))) :
    ab_J x 0 [some (ab_O 0), some (ab_I a1), some (ab_I a2), some (ab_I a3), some (ab_I a4), some (ab_I a5), none] [] [w0] kc ks := ab_go hx kX9_brokenBy.2 26 [] 0 h
def mX9_brokenAll : ab_M := ((yX9_brokenAll, cX9_brokenAll, 7, (some .int)), ([9], [(0, 0)], [false], false, false, 0), (false, 9, 4))
def rX9_brokenAll : List ab_R := [(0, .iconst 0, 1, 0, 0, 0, [], none),
  (1, .istore 5, 2, 0, 0, 0, [], none),
  (3, .iconst 0, 1, 0, 0, 0, [], none),
  (4, .istore 6, 2, 0, 0, 0, [], none),
  (6, .iload 6, 2, 0, 0, 0, [], none),
  (8, .bipush 6, 2, 0, 0, 0, [], none),
  (10, .if_icmp .ge 25, 3, 0, 0, 0, [35], none),
  (13, .iload 5, 2, 0, 0, 0, [], none),
  (15, .aload_n 0, 1, 0, 0, 0, [], none),
  (16, .iload 6, 2, 0, 0, 0, [], none),
  (18, .iload_n 1, 1, 0, 0, 0, [], none),
  (19, .iload_n 2, 1, 0, 0, 0, [], none),
  (20, .iload_n 3, 1, 0, 0, 0, [], none),
  (21, .iload 4, 2, 0, 0, 0, [], none),
  (23, .invokevirtual 273, 3, 0, 0, 0, [], some mX9_brokenBy),
  (26, .iadd, 1, 0, 0, 0, [], none),
  (27, .istore 5, 2, 0, 0, 0, [], none),
  (29, .iinc 6 1, 3, 0, 0, 0, [], none),
  (32, .goto (-26), 3, 0, 0, 0, [6], none),
  (35, .iload 5, 2, 0, 0, 0, [], none),
  (37, .ireturn, 1, 0, 0, 0, [], none)]
set_option maxRecDepth 100000 in
theorem kX9_brokenAll : ab_def_ok mX9_brokenAll rX9_brokenAll := ⟨ab_mok_of 1485 108 1484 69 (by decide +kernel), [0, 0, 0, 0, 0, 0, 0, 0, 0, 0, 0, 0, 0, 0, 1486, 0, 0, 0, 0, 0, 0], by decide +kernel⟩
set_option maxRecDepth 100000 in
theorem vX9_brokenAll_0 {x : ab_Cx} {d mc ms : Nat} {Post : Option ab_V → List ab_Ob → Prop} (hx : ab_At x mX9_brokenAll d mc ms Post) (a1 a2 a3 a4 : Int) (w0 : ab_Ob) (kc ks : Nat)
    (h : ab_J x 6 [some (ab_O 0), some (ab_I a1), some (ab_I a2), some (ab_I a3), some (ab_I a4), some (ab_I 0), some (ab_I 0)] [] [w0] kc ks) :
    ab_J x 0 [some (ab_O 0), some (ab_I a1), some (ab_I a2), some (ab_I a3), some (ab_I a4), none, none] [] [w0] kc ks := ab_go hx kX9_brokenAll.2 9 [(6, [true, true, true, true, true, true, true])] 0 h
set_option maxRecDepth 100000 in
theorem vX9_brokenAll_6 {x : ab_Cx} {d mc ms : Nat} {Post : Option ab_V → List ab_Ob → Prop} (hx : ab_At x mX9_brokenAll d mc ms Post) (l1 l2 l3 l4 l5 l6 : Int) (w0 : ab_Ob) (kc ks : Nat)
    (h : ((6 ≤ l6 → Post (some (ab_I l5)) [w0]) ∧ (¬ 6 ≤ l6 → (∃ Q1 : Option ab_V → List ab_Ob → Prop, ab_Ct d 0 0 mX9_brokenBy [ab_O 0, ab_I l6, ab_I l1, ab_I l2, ab_I l3, ab_I l4] [w0] Q1 ∧ (∀ r2 : Int, Q1 (some (ab_I r2)) [w0] → ((-2147483648 ≤ l5 + r2 ∧ l5 + r2 ≤ 2147483647) ∧ ((-2147483648 ≤ l6 + 1 ∧ l6 + 1 ≤ 2147483647) ∧ ab_J x 6 [some (ab_O 0), some (ab_I l1), some (ab_I l2), some (ab_I l3), some (ab_I l4), some (ab_I (l5 + r2)), some (ab_I (l6 + 1))] [] [w0] kc ks))))))) :
    ab_J x 6 [some (ab_O 0), some (ab_I l1), some (ab_I l2), some (ab_I l3), some (ab_I l4), some (ab_I l5), some (ab_I l6)] [] [w0] kc ks := ab_go hx kX9_brokenAll.2 20 [(6, [true, true, true, true, true, true, true])] 6 h
def mX9_joinedBy : ab_M := ((yX9_joinedBy, cX9_joinedBy, 8, (some .int)), ([9], [(0, 0)], [false], false, false, 0), (false, 9, 5))
def rX9_joinedBy : List ab_R := [(0, .iload_n 3, 1, 0, 0, 0, [], none),
  (1, .iload 4, 2, 0, 0, 0, [], none),
  (3, .if_icmp .gt 13, 3, 0, 0, 0, [16], none),
  (6, .iload_n 1, 1, 0, 0, 0, [], none),
  (7, .iload 4, 2, 0, 0, 0, [], none),
  (9, .iload_n 3, 1, 0, 0, 0, [], none),
  (10, .invokestatic 289, 3, 0, 0, 0, [], some mX9_cube),
  (13, .goto 12, 3, 0, 0, 0, [25], none),
  (16, .iload 4, 2, 0, 0, 0, [], none),
  (18, .iconst 1, 1, 0, 0, 0, [], none),
  (19, .iadd, 1, 0, 0, 0, [], none),
  (20, .iload_n 2, 1, 0, 0, 0, [], none),
  (21, .iload_n 3, 1, 0, 0, 0, [], none),
  (22, .invokestatic 289, 3, 0, 0, 0, [], some mX9_cube),
  (25, .istore 6, 2, 0, 0, 0, [], none),
  (27, .iload_n 3, 1, 0, 0, 0, [], none),
  (28, .iload 4, 2, 0, 0, 0, [], none),
  (30, .if_icmp .gt 16, 3, 0, 0, 0, [46], none),
  (33, .iload 4, 2, 0, 0, 0, [], none),
  (35, .iconst 1, 1, 0, 0, 0, [], none),
  (36, .iadd, 1, 0, 0, 0, [], none),
  (37, .iload_n 2, 1, 0, 0, 0, [], none),
  (38, .iload 5, 2, 0, 0, 0, [], none),
  (40, .invokestatic 289, 3, 0, 0, 0, [], some mX9_cube),
  (43, .goto 11, 3, 0, 0, 0, [54], none),
  (46, .iload_n 1, 1, 0, 0, 0, [], none),
  (47, .iload 4, 2, 0, 0, 0, [], none),
  (49, .iload 5, 2, 0, 0, 0, [], none),
  (51, .invokestatic 289, 3, 0, 0, 0, [], some mX9_cube),
  (54, .istore 7, 2, 0, 0, 0, [], none),
  (56, .aload_n 0, 1, 0, 0, 0, [], none),
  (57, .getfield 33, 3, 9, 27, 0, [], none),
  (60, .iload 6, 2, 0, 0, 0, [], none),
  (62, .iaload, 1, 0, 0, 0, [], none),
  (63, .aload_n 0, 1, 0, 0, 0, [], none),
  (64, .getfield 33, 3, 9, 27, 0, [], none),
  (67, .iload 7, 2, 0, 0, 0, [], none),
  (69, .iaload, 1, 0, 0, 0, [], none),
  (70, .iadd, 1, 0, 0, 0, [], none),
  (71, .aload_n 0, 1, 0, 0, 0, [], none),
  (72, .iload_n 3, 1, 0, 0, 0, [], none),
  (73, .iload 5, 2, 0, 0, 0, [], none),
  (75, .iload 4, 2, 0, 0, 0, [], none),
  (77, .iload_n 1, 1, 0, 0, 0, [], none),
  (78, .isub, 1, 0, 0, 0, [], none),
  (79, .iconst 1, 1, 0, 0, 0, [], none),
  (80, .iadd, 1, 0, 0, 0, [], none),
  (81, .iload_n 2, 1, 0, 0, 0, [], none),
  (82, .iload 4, 2, 0, 0, 0, [], none),
  (84, .isub, 1, 0, 0, 0, [], none),
  (85, .invokevirtual 298, 3, 0, 0, 0, [], some mX9_brokenAll),
  (88, .iadd, 1, 0, 0, 0, [], none),
  (89, .ireturn, 1, 0, 0, 0, [], none)]
set_option maxRecDepth 100000 in
theorem kX9_joinedBy : ab_def_ok mX9_joinedBy rX9_joinedBy := ⟨ab_mok_of 1481 108 1480 68 (by decide +kernel), [0, 0, 0, 0, 0, 0, 1470, 0, 0, 0, 0, 0, 0, 1470, 0, 0, 0, 0, 0, 0, 0, 0, 0, 1470, 0, 0, 0, 0, 1470, 0, 0, 1219, 0, 0, 0, 1219, 0, 0, 0, 0, 0, 0, 0, 0, 0, 0, 0, 0, 0, 0, 1482, 0, 0], by decide +kernel⟩
set_option maxRecDepth 100000 in
theorem vX9_joinedBy_0 {x : ab_Cx} {d mc ms : Nat} {Post : Option ab_V → List ab_Ob → Prop} (hx : ab_At x mX9_joinedBy d mc ms Post) (a1 a2 a3 a4 a5 : Int) (w0 : ab_Ob) (kc ks : Nat)
    (h : ((a4 < a3 → ((-2147483648 ≤ a4 + 1 ∧ a4 + 1 ≤ 2147483647) ∧ (∃ Q1 : Option ab_V → List ab_Ob → Prop, ab_Ct d 0 0 mX9_cube [ab_I (a4 + 1), ab_I a2, ab_I a3] [] Q1 ∧ (∀ r2 : Int, Q1 (some (ab_I r2)) [] → ab_J x 25 [some (ab_O 0), some (ab_I a1), some (ab_I a2), some (ab_I a3), some (ab_I a4), some (ab_I a5), none, none] [ab_I r2] [w0] kc ks)))) ∧ (¬ a4 < a3 → (∃ Q3 : Option ab_V → List ab_Ob → Prop, ab_Ct d 0 0 mX9_cube [ab_I a1, ab_I a4, ab_I a3] [] Q3 ∧ (∀ r4 : Int, Q3 (some (ab_I r4)) [] → ab_J x 25 [some (ab_O 0), some (ab_I a1), some (ab_I a2), some (ab_I a3), some (ab_I a4), some (ab_I a5), none, none] [ab_I r4] [w0] kc ks))))) :
    ab_J x 0 [some (ab_O 0), some (ab_I a1), some (ab_I a2), some (ab_I a3), some (ab_I a4), some (ab_I a5), none, none] [] [w0] kc ks := ab_go hx kX9_joinedBy.2 14 [(25, [true, true, true, true, true, true, false, false]), (54, [true, true, true, true, true, true, true, false])] 0 h
set_option maxRecDepth 100000 in
theorem vX9_joinedBy_25 {x : ab_Cx} {d mc ms : Nat} {Post : Option ab_V → List ab_Ob → Prop} (hx : ab_At x mX9_joinedBy d mc ms Post) (l1 l2 l3 l4 l5 t0 : Int) (w0 : ab_Ob) (kc ks : Nat)
    (h : ((l4 < l3 → (∃ Q1 : Option ab_V → List ab_Ob → Prop, ab_Ct d 0 0 mX9_cube [ab_I l1, ab_I l4, ab_I l5] [] Q1 ∧ (∀ r2 : Int, Q1 (some (ab_I r2)) [] → ab_J x 54 [some (ab_O 0), some (ab_I l1), some (ab_I l2), some (ab_I l3), some (ab_I l4), some (ab_I l5), some (ab_I t0), none] [ab_I r2] [w0] kc ks))) ∧ (¬ l4 < l3 → ((-2147483648 ≤ l4 + 1 ∧ l4 + 1 ≤ 2147483647) ∧ (∃ Q3 : Option ab_V → List ab_Ob → Prop, ab_Ct d 0 0 mX9_cube [ab_I (l4 + 1), ab_I l2, ab_I l5] [] Q3 ∧ (∀ r4 : Int, Q3 (some (ab_I r4)) [] → ab_J x 54 [some (ab_O 0), some (ab_I l1), some (ab_I l2), some (ab_I l3), some (ab_I l4), some (ab_I l5), some (ab_I t0), none] [ab_I r4] [w0] kc ks)))))) :
    ab_J x 25 [some (ab_O 0), some (ab_I l1), some (ab_I l2), some (ab_I l3), some (ab_I l4), some (ab_I l5), none, none] [ab_I t0] [w0] kc ks := ab_go hx kX9_joinedBy.2 16 [(25, [true, true, true, true, true, true, false, false]), (54, [true, true, true, true, true, true, true, false])] 25 h
set_option maxRecDepth 100000 in
theorem vX9_joinedBy_54 {x : ab_Cx} {d mc ms : Nat} {Post : Option ab_V → List ab_Ob → Prop} (hx : ab_At x mX9_joinedBy d mc ms Post) (l1 l2 l3 l4 l5 l6 t0 : Int) (w0 : ab_Ob) (kc ks : Nat)
    (h : ((0 ≤ l6 ∧ l6 < (w0.2 27).1) ∧ ((0 ≤ t0 ∧ t0 < (w0.2 27).1) ∧ ((-2147483648 ≤ ((w0.2 27).2 l6) + ((w0.2 27).2 t0) ∧ ((w0.2 27).2 l6) + ((w0.2 27).2 t0) ≤ 2147483647) ∧ ((-2147483648 ≤ l4 - l1 ∧ l4 - l1 ≤ 2147483647) ∧ ((-2147483648 ≤ (l4 - l1) + 1 ∧ (l4 - l1) + 1 ≤ 2147483647) ∧ ((-2147483648 ≤ l2 - l4 ∧ l2 - l4 ≤ 2147483647) ∧ (∃ Q1 : Option ab_V → List ab_Ob → Prop, ab_Ct d 0 0 mX9_brokenAll [ab_O 0, ab_I l3, ab_I l5, ab_I ((l4 - l1) + 1), ab_I (l2 - l4)] [w0] Q1 ∧ (∀ r2 : Int, Q1 (some (ab_I r2)) [w0] → ((-2147483648 ≤ (((w0.2 27).2 l6) + ((w0.2 27).2 t0)) + r2 ∧ (((w0.2 27).2 l6) + ((w0.2 27).2 t0)) + r2 ≤ 2147483647) ∧ Post (some (ab_I ((((w0.2 27).2 l6) + ((w0.2 27).2 t0)) + r2))) [w0])))))))))) :
    ab_J x 54 [some (ab_O 0), some (ab_I l1), some (ab_I l2), some (ab_I l3), some (ab_I l4), some (ab_I l5), some (ab_I l6), none] [ab_I t0] [w0] kc ks := ab_go hx kX9_joinedBy.2 28 [(25, [true, true, true, true, true, true, false, false]), (54, [true, true, true, true, true, true, true, false])] 54 h
def mX9_tries : ab_M := ((yX9_tries, cX9_tries, 14, none), ([9], [(0, 0)], [true], false, false, 0), (false, 9, 6))
def rX9_tries : List ab_R := [(0, .aload_n 0, 1, 0, 0, 0, [], none),
  (1, .iload_n 2, 1, 0, 0, 0, [], none),
  (2, .iload_n 3, 1, 0, 0, 0, [], none),
  (3, .iload 4, 2, 0, 0, 0, [], none),
  (5, .iload 5, 2, 0, 0, 0, [], none),
  (7, .iload 6, 2, 0, 0, 0, [], none),
  (9, .invokevirtual 302, 3, 0, 0, 0, [], some mX9_joinedBy),
  (12, .istore 7, 2, 0, 0, 0, [], none),
  (14, .iload 7, 2, 0, 0, 0, [], none),
  (16, .aload_n 0, 1, 0, 0, 0, [], none),
  (17, .getfield 33, 3, 9, 27, 0, [], none),
  (20, .iload_n 1, 1, 0, 0, 0, [], none),
  (21, .iaload, 1, 0, 0, 0, [], none),
  (22, .if_icmp .le 4, 3, 0, 0, 0, [26], none),
  (25, .return_, 1, 0, 0, 0, [], none),
  (26, .aload_n 0, 1, 0, 0, 0, [], none),
  (27, .getfield 42, 3, 9, 30, 0, [], none),
  (30, .iload 4, 2, 0, 0, 0, [], none),
  (32, .iload 5, 2, 0, 0, 0, [], none),
  (34, .if_icmp .gt 14, 3, 0, 0, 0, [48], none),
  (37, .iload_n 2, 1, 0, 0, 0, [], none),
  (38, .iload 5, 2, 0, 0, 0, [], none),
  (40, .iload 4, 2, 0, 0, 0, [], none),
  (42, .invokestatic 289, 3, 0, 0, 0, [], some mX9_cube),
  (45, .goto 13, 3, 0, 0, 0, [58], none),
  (48, .iload 5, 2, 0, 0, 0, [], none),
  (50, .iconst 1, 1, 0, 0, 0, [], none),
  (51, .iadd, 1, 0, 0, 0, [], none),
  (52, .iload_n 3, 1, 0, 0, 0, [], none),
  (53, .iload 4, 2, 0, 0, 0, [], none),
  (55, .invokestatic 289, 3, 0, 0, 0, [], some mX9_cube),
  (58, .laload, 1, 0, 0, 0, [], none),
  (59, .lstore 8, 2, 0, 0, 0, [], none),
  (61, .aload_n 0, 1, 0, 0, 0, [], none),
  (62, .getfield 42, 3, 9, 30, 0, [], none),
  (65, .iload 4, 2, 0, 0, 0, [], none),
  (67, .iload 5, 2, 0, 0, 0, [], none),
  (69, .if_icmp .gt 16, 3, 0, 0, 0, [85], none),
  (72, .iload 5, 2, 0, 0, 0, [], none),
  (74, .iconst 1, 1, 0, 0, 0, [], none),
  (75, .iadd, 1, 0, 0, 0, [], none),
  (76, .iload_n 3, 1, 0, 0, 0, [], none),
  (77, .iload 6, 2, 0, 0, 0, [], none),
  (79, .invokestatic 289, 3, 0, 0, 0, [], some mX9_cube),
  (82, .goto 11, 3, 0, 0, 0, [93], none),
  (85, .iload_n 2, 1, 0, 0, 0, [], none),
  (86, .iload 5, 2, 0, 0, 0, [], none),
  (88, .iload 6, 2, 0, 0, 0, [], none),
  (90, .invokestatic 289, 3, 0, 0, 0, [], some mX9_cube),
  (93, .laload, 1, 0, 0, 0, [], none),
  (94, .lstore 10, 2, 0, 0, 0, [], none),
  (96, .lload 8, 2, 0, 0, 0, [], none),
  (98, .ldc2_w 305, 3, 0, 1000000000000, 0, [], none),
  (101, .lload 10, 2, 0, 0, 0, [], none),
  (103, .ldiv, 1, 0, 0, 0, [], none),
  (104, .lcmp, 1, 0, 0, 0, [], none),
  (105, .ifCond .le 9, 3, 0, 0, 0, [114], none),
  (108, .ldc2_w 305, 3, 0, 1000000000000, 0, [], none),
  (111, .goto 8, 3, 0, 0, 0, [119], none),
  (114, .lload 8, 2, 0, 0, 0, [], none),
  (116, .lload 10, 2, 0, 0, 0, [], none),
  (118, .lmul, 1, 0, 0, 0, [], none),
  (119, .lstore 12, 2, 0, 0, 0, [], none),
  (121, .iload 7, 2, 0, 0, 0, [], none),
  (123, .aload_n 0, 1, 0, 0, 0, [], none),
  (124, .getfield 33, 3, 9, 27, 0, [], none),
  (127, .iload_n 1, 1, 0, 0, 0, [], none),
  (128, .iaload, 1, 0, 0, 0, [], none),
  (129, .if_icmp .ge 34, 3, 0, 0, 0, [163], none),
  (132, .aload_n 0, 1, 0, 0, 0, [], none),
  (133, .getfield 33, 3, 9, 27, 0, [], none),
  (136, .iload_n 1, 1, 0, 0, 0, [], none),
  (137, .iload 7, 2, 0, 0, 0, [], none),
  (139, .iastore, 1, 0, 0, 0, [], none),
  (140, .aload_n 0, 1, 0, 0, 0, [], none),
  (141, .getfield 36, 3, 9, 28, 0, [], none),
  (144, .iload_n 1, 1, 0, 0, 0, [], none),
  (145, .iload 5, 2, 0, 0, 0, [], none),
  (147, .iastore, 1, 0, 0, 0, [], none),
  (148, .aload_n 0, 1, 0, 0, 0, [], none),
  (149, .getfield 39, 3, 9, 29, 0, [], none),
  (152, .iload_n 1, 1, 0, 0, 0, [], none),
  (153, .iload 6, 2, 0, 0, 0, [], none),
  (155, .iastore, 1, 0, 0, 0, [], none),
  (156, .aload_n 0, 1, 0, 0, 0, [], none),
  (157, .getfield 42, 3, 9, 30, 0, [], none),
  (160, .iload_n 1, 1, 0, 0, 0, [], none),
  (161, .lconst 0, 1, 0, 0, 0, [], none),
  (162, .lastore, 1, 0, 0, 0, [], none),
  (163, .aload_n 0, 1, 0, 0, 0, [], none),
  (164, .getfield 42, 3, 9, 30, 0, [], none),
  (167, .iload_n 1, 1, 0, 0, 0, [], none),
  (168, .aload_n 0, 1, 0, 0, 0, [], none),
  (169, .getfield 42, 3, 9, 30, 0, [], none),
  (172, .iload_n 1, 1, 0, 0, 0, [], none),
  (173, .laload, 1, 0, 0, 0, [], none),
  (174, .lload 12, 2, 0, 0, 0, [], none),
  (176, .ladd, 1, 0, 0, 0, [], none),
  (177, .ldc2_w 305, 3, 0, 1000000000000, 0, [], none),
  (180, .lcmp, 1, 0, 0, 0, [], none),
  (181, .ifCond .le 9, 3, 0, 0, 0, [190], none),
  (184, .ldc2_w 305, 3, 0, 1000000000000, 0, [], none),
  (187, .goto 12, 3, 0, 0, 0, [199], none),
  (190, .aload_n 0, 1, 0, 0, 0, [], none),
  (191, .getfield 42, 3, 9, 30, 0, [], none),
  (194, .iload_n 1, 1, 0, 0, 0, [], none),
  (195, .laload, 1, 0, 0, 0, [], none),
  (196, .lload 12, 2, 0, 0, 0, [], none),
  (198, .ladd, 1, 0, 0, 0, [], none),
  (199, .lastore, 1, 0, 0, 0, [], none),
  (200, .return_, 1, 0, 0, 0, [], none)]
set_option maxRecDepth 100000 in
theorem kX9_tries : ab_def_ok mX9_tries rX9_tries := ⟨ab_mok_of 1477 108 1476 67 (by decide +kernel), [0, 0, 0, 0, 0, 0, 1478, 0, 0, 0, 1219, 0, 0, 0, 0, 0, 1222, 0, 0, 0, 0, 0, 0, 1470, 0, 0, 0, 0, 0, 0, 1470, 0, 0, 0, 1222, 0, 0, 0, 0, 0, 0, 0, 0, 1470, 0, 0, 0, 0, 1470, 0, 0, 0, 1496, 0, 0, 0, 0, 1496, 0, 0, 0, 0, 0, 0, 0, 1219, 0, 0, 0, 0, 1219, 0, 0, 0, 0, 1220, 0, 0, 0, 0, 1221, 0, 0, 0, 0, 1222, 0, 0, 0, 0, 1222, 0, 0, 1222, 0, 0, 0, 0, 1496, 0, 0, 1496, 0, 0, 1222, 0, 0, 0, 0, 0, 0], by decide +kernel⟩
set_option maxRecDepth 100000 in
theorem vX9_tries_0 {x : ab_Cx} {d mc ms : Nat} {Post : Option ab_V → List ab_Ob → Prop} (hx : ab_At x mX9_tries d mc ms Post) (a1 a2 a3 a4 a5 a6 : Int) (w0 : ab_Ob) (kc ks : Nat)
    (h : (∃ Q1 : Option ab_V → List ab_Ob → Prop, ab_Ct d 0 0 mX9_joinedBy [ab_O 0, ab_I a2, ab_I a3, ab_I a4, ab_I a5, ab_I a6] [w0] Q1 ∧ (∀ r2 : Int, Q1 (some (ab_I r2)) [w0] → ((0 ≤ a1 ∧ a1 < (w0.2 27).1) ∧ ((r2 ≤ ((w0.2 27).2 a1) → ((a5 < a4 → ((-2147483648 ≤ a5 + 1 ∧ a5 + 1 ≤ 2147483647) ∧ (∃ Q3 : Option ab_V → List ab_Ob → Prop, ab_Ct d 0 0 mX9_cube [ab_I (a5 + 1), ab_I a3, ab_I a4] [] Q3 ∧ (∀ r4 : Int, Q3 (some (ab_I r4)) [] → ab_J x 58 [some (ab_O 0), some (ab_I a1), some (ab_I a2), some (ab_I a3), some (ab_I a4), some (ab_I a5), some (ab_I a6), some (ab_I r2), none, none, none, none, none, none] [ab_I r4, ab_A 0 30] [w0] kc ks)))) ∧ (¬ a5 < a4 → (∃ Q5 : Option ab_V → List ab_Ob → Prop, ab_Ct d 0 0 mX9_cube [ab_I a2, ab_I a5, ab_I a4] [] Q5 ∧ (∀ r6 : Int, Q5 (some (ab_I r6)) [] → ab_J x 58 [some (ab_O 0), some (ab_I a1), some (ab_I a2), some (ab_I a3), some (ab_I a4), some (ab_I a5), some (ab_I a6), some (ab_I r2), none, none, none, none, none, none] [ab_I r6, ab_A 0 30] [w0] kc ks))))) ∧ (¬ r2 ≤ ((w0.2 27).2 a1) → Post none [w0])))))) :
    ab_J x 0 [some (ab_O 0), some (ab_I a1), some (ab_I a2), some (ab_I a3), some (ab_I a4), some (ab_I a5), some (ab_I a6), none, none, none, none, none, none, none] [] [w0] kc ks := ab_go hx kX9_tries.2 30 [(58, [true, true, true, true, true, true, true, true, false, false, false, false, false, false]), (93, [true, true, false, false, false, true, true, true, true, false, false, false, false, false]), (119, [true, true, false, false, false, true, true, true, false, false, false, false, false, false]), (163, [true, true, false, false, false, false, false, false, false, false, false, false, true, false]), (199, [false, false, false, false, false, false, false, false, false, false, false, false, false, false])] 0 h
set_option maxRecDepth 100000 in
theorem vX9_tries_58 {x : ab_Cx} {d mc ms : Nat} {Post : Option ab_V → List ab_Ob → Prop} (hx : ab_At x mX9_tries d mc ms Post) (l1 l2 l3 l4 l5 l6 l7 t0 : Int) (w0 : ab_Ob) (kc ks : Nat)
    (h : ((0 ≤ t0 ∧ t0 < (w0.2 30).1) ∧ ((l5 < l4 → (∃ Q1 : Option ab_V → List ab_Ob → Prop, ab_Ct d 0 0 mX9_cube [ab_I l2, ab_I l5, ab_I l6] [] Q1 ∧ (∀ r2 : Int, Q1 (some (ab_I r2)) [] → ab_J x 93 [some (ab_O 0), some (ab_I l1), none, none, none, some (ab_I l5), some (ab_I l6), some (ab_I l7), some (ab_L ((w0.2 30).2 t0)), none, none, none, none, none] [ab_I r2, ab_A 0 30] [w0] kc ks))) ∧ (¬ l5 < l4 → ((-2147483648 ≤ l5 + 1 ∧ l5 + 1 ≤ 2147483647) ∧ (∃ Q3 : Option ab_V → List ab_Ob → Prop, ab_Ct d 0 0 mX9_cube [ab_I (l5 + 1), ab_I l3, ab_I l6] [] Q3 ∧ (∀ r4 : Int, Q3 (some (ab_I r4)) [] → ab_J x 93 [some (ab_O 0), some (ab_I l1), none, none, none, some (ab_I l5), some (ab_I l6), some (ab_I l7), some (ab_L ((w0.2 30).2 t0)), none, none, none, none, none] [ab_I r4, ab_A 0 30] [w0] kc ks))))))) :
    ab_J x 58 [some (ab_O 0), some (ab_I l1), some (ab_I l2), some (ab_I l3), some (ab_I l4), some (ab_I l5), some (ab_I l6), some (ab_I l7), none, none, none, none, none, none] [ab_I t0, ab_A 0 30] [w0] kc ks := ab_go hx kX9_tries.2 19 [(58, [true, true, true, true, true, true, true, true, false, false, false, false, false, false]), (93, [true, true, false, false, false, true, true, true, true, false, false, false, false, false]), (119, [true, true, false, false, false, true, true, true, false, false, false, false, false, false]), (163, [true, true, false, false, false, false, false, false, false, false, false, false, true, false]), (199, [false, false, false, false, false, false, false, false, false, false, false, false, false, false])] 58 h
set_option maxRecDepth 100000 in
theorem vX9_tries_93 {x : ab_Cx} {d mc ms : Nat} {Post : Option ab_V → List ab_Ob → Prop} (hx : ab_At x mX9_tries d mc ms Post) (l1 l5 l6 l7 l8 t0 : Int) (w0 : ab_Ob) (kc ks : Nat)
    (h : ((0 ≤ t0 ∧ t0 < (w0.2 30).1) ∧ ((¬ (w0.2 30).2 t0 = 0) ∧ ((-9223372036854775808 ≤ (Int.tdiv 1000000000000 ((w0.2 30).2 t0)) ∧ (Int.tdiv 1000000000000 ((w0.2 30).2 t0)) ≤ 9223372036854775807) ∧ (((ab_cmp l8 (Int.tdiv 1000000000000 ((w0.2 30).2 t0))) ≤ 0 → ((-9223372036854775808 ≤ l8 * ((w0.2 30).2 t0) ∧ l8 * ((w0.2 30).2 t0) ≤ 9223372036854775807) ∧ ab_J x 119 [some (ab_O 0), some (ab_I l1), none, none, none, some (ab_I l5), some (ab_I l6), some (ab_I l7), none, none, none, none, none, none] [ab_L (l8 * ((w0.2 30).2 t0))] [w0] kc ks)) ∧ (¬ (ab_cmp l8 (Int.tdiv 1000000000000 ((w0.2 30).2 t0))) ≤ 0 → ab_J x 119 [some (ab_O 0), some (ab_I l1), none, none, none, some (ab_I l5), some (ab_I l6), some (ab_I l7), none, none, none, none, none, none] [ab_L 1000000000000] [w0] kc ks)))))) :
    ab_J x 93 [some (ab_O 0), some (ab_I l1), none, none, none, some (ab_I l5), some (ab_I l6), some (ab_I l7), some (ab_L l8), none, none, none, none, none] [ab_I t0, ab_A 0 30] [w0] kc ks := ab_go hx kX9_tries.2 16 [(58, [true, true, true, true, true, true, true, true, false, false, false, false, false, false]), (93, [true, true, false, false, false, true, true, true, true, false, false, false, false, false]), (119, [true, true, false, false, false, true, true, true, false, false, false, false, false, false]), (163, [true, true, false, false, false, false, false, false, false, false, false, false, true, false]), (199, [false, false, false, false, false, false, false, false, false, false, false, false, false, false])] 93 h
set_option maxRecDepth 100000 in
theorem vX9_tries_119 {x : ab_Cx} {d mc ms : Nat} {Post : Option ab_V → List ab_Ob → Prop} (hx : ab_At x mX9_tries d mc ms Post) (l1 l5 l6 l7 t0 : Int) (w0 : ab_Ob) (kc ks : Nat)
    (h : ((0 ≤ l1 ∧ l1 < (w0.2 27).1) ∧ ((((w0.2 27).2 l1) ≤ l7 → ab_J x 163 [some (ab_O 0), some (ab_I l1), none, none, none, none, none, none, none, none, none, none, some (ab_L t0), none] [] [w0] kc ks) ∧ (¬ ((w0.2 27).2 l1) ≤ l7 → ((0 ≤ l1 ∧ l1 < (w0.2 27).1) ∧ ((0 ≤ l1 ∧ l1 < (w0.2 28).1) ∧ ((0 ≤ l1 ∧ l1 < (w0.2 29).1) ∧ ((0 ≤ l1 ∧ l1 < (w0.2 30).1) ∧ ab_J x 163 [some (ab_O 0), some (ab_I l1), none, none, none, none, none, none, none, none, none, none, some (ab_L t0), none] [] [(ab_pa (ab_pa (ab_pa (ab_pa w0 27 l1 l7) 28 l1 l5) 29 l1 l6) 30 l1 0)] kc ks)))))))) :
    ab_J x 119 [some (ab_O 0), some (ab_I l1), none, none, none, some (ab_I l5), some (ab_I l6), some (ab_I l7), none, none, none, none, none, none] [ab_L t0] [w0] kc ks := ab_go hx kX9_tries.2 32 [(58, [true, true, true, true, true, true, true, true, false, false, false, false, false, false]), (93, [true, true, false, false, false, true, true, true, true, false, false, false, false, false]), (119, [true, true, false, false, false, true, true, true, false, false, false, false, false, false]), (163, [true, true, false, false, false, false, false, false, false, false, false, false, true, false]), (199, [false, false, false, false, false, false, false, false, false, false, false, false, false, false])] 119 h
set_option maxRecDepth 100000 in
theorem vX9_tries_163 {x : ab_Cx} {d mc ms : Nat} {Post : Option ab_V → List ab_Ob → Prop} (hx : ab_At x mX9_tries d mc ms Post) (l1 l12 : Int) (w0 : ab_Ob) (kc ks : Nat)
    (h : ((0 ≤ l1 ∧ l1 < (w0.2 30).1) ∧ ((-9223372036854775808 ≤ ((w0.2 30).2 l1) + l12 ∧ ((w0.2 30).2 l1) + l12 ≤ 9223372036854775807) ∧ (((ab_cmp (((w0.2 30).2 l1) + l12) 1000000000000) ≤ 0 → ((0 ≤ l1 ∧ l1 < (w0.2 30).1) ∧ ((-9223372036854775808 ≤ ((w0.2 30).2 l1) + l12 ∧ ((w0.2 30).2 l1) + l12 ≤ 9223372036854775807) ∧ ab_J x 199 [none, none, none, none, none, none, none, none, none, none, none, none, none, none] [ab_L (((w0.2 30).2 l1) + l12), ab_I l1, ab_A 0 30] [w0] kc ks))) ∧ (¬ (ab_cmp (((w0.2 30).2 l1) + l12) 1000000000000) ≤ 0 → ab_J x 199 [none, none, none, none, none, none, none, none, none, none, none, none, none, none] [ab_L 1000000000000, ab_I l1, ab_A 0 30] [w0] kc ks))))) :
    ab_J x 163 [some (ab_O 0), some (ab_I l1), none, none, none, none, none, none, none, none, none, none, some (ab_L l12), none] [] [w0] kc ks := ab_go hx kX9_tries.2 23 [(58, [true, true, true, true, true, true, true, true, false, false, false, false, false, false]), (93, [true, true, false, false, false, true, true, true, true, false, false, false, false, false]), (119, [true, true, false, false, false, true, true, true, false, false, false, false, false, false]), (163, [true, true, false, false, false, false, false, false, false, false, false, false, true, false]), (199, [false, false, false, false, false, false, false, false, false, false, false, false, false, false])] 163 h
set_option maxRecDepth 100000 in
theorem vX9_tries_199 {x : ab_Cx} {d mc ms : Nat} {Post : Option ab_V → List ab_Ob → Prop} (hx : ab_At x mX9_tries d mc ms Post) (t0 t1 : Int) (w0 : ab_Ob) (kc ks : Nat)
    (h : ((0 ≤ t1 ∧ t1 < (w0.2 30).1) ∧ Post none [(ab_pa w0 30 t1 t0)])) :
    ab_J x 199 [none, none, none, none, none, none, none, none, none, none, none, none, none, none] [ab_L t0, ab_I t1, ab_A 0 30] [w0] kc ks := ab_go hx kX9_tries.2 6 [(58, [true, true, true, true, true, true, true, true, false, false, false, false, false, false]), (93, [true, true, false, false, false, true, true, true, true, false, false, false, false, false]), (119, [true, true, false, false, false, true, true, true, false, false, false, false, false, false]), (163, [true, true, false, false, false, false, false, false, false, false, false, false, true, false]), (199, [false, false, false, false, false, false, false, false, false, false, false, false, false, false])] 199 h
def mX9_laysOne : ab_M := ((yX9_laysOne, cX9_laysOne, 9, none), ([9], [(0, 0)], [true], false, false, 0), (false, 9, 3))
def rX9_laysOne : List ab_R := [(0, .iload_n 1, 1, 0, 0, 0, [], none),
  (1, .iload_n 2, 1, 0, 0, 0, [], none),
  (2, .iload_n 3, 1, 0, 0, 0, [], none),
  (3, .invokestatic 289, 3, 0, 0, 0, [], some mX9_cube),
  (6, .istore 4, 2, 0, 0, 0, [], none),
  (8, .aload_n 0, 1, 0, 0, 0, [], none),
  (9, .getfield 33, 3, 9, 27, 0, [], none),
  (12, .iload 4, 2, 0, 0, 0, [], none),
  (14, .iload_n 1, 1, 0, 0, 0, [], none),
  (15, .iload_n 2, 1, 0, 0, 0, [], none),
  (16, .if_icmp .ne 7, 3, 0, 0, 0, [23], none),
  (19, .iconst 0, 1, 0, 0, 0, [], none),
  (20, .goto 6, 3, 0, 0, 0, [26], none),
  (23, .ldc_w 293, 3, 0, 1000000000, 0, [], none),
  (26, .iastore, 1, 0, 0, 0, [], none),
  (27, .aload_n 0, 1, 0, 0, 0, [], none),
  (28, .getfield 36, 3, 9, 28, 0, [], none),
  (31, .iload 4, 2, 0, 0, 0, [], none),
  (33, .bipush (-2), 2, 0, 0, 0, [], none),
  (35, .iastore, 1, 0, 0, 0, [], none),
  (36, .aload_n 0, 1, 0, 0, 0, [], none),
  (37, .getfield 39, 3, 9, 29, 0, [], none),
  (40, .iload 4, 2, 0, 0, 0, [], none),
  (42, .bipush (-2), 2, 0, 0, 0, [], none),
  (44, .iastore, 1, 0, 0, 0, [], none),
  (45, .aload_n 0, 1, 0, 0, 0, [], none),
  (46, .getfield 42, 3, 9, 30, 0, [], none),
  (49, .iload 4, 2, 0, 0, 0, [], none),
  (51, .iload_n 1, 1, 0, 0, 0, [], none),
  (52, .iload_n 2, 1, 0, 0, 0, [], none),
  (53, .if_icmp .ne 7, 3, 0, 0, 0, [60], none),
  (56, .lconst 1, 1, 0, 0, 0, [], none),
  (57, .goto 4, 3, 0, 0, 0, [61], none),
  (60, .lconst 0, 1, 0, 0, 0, [], none),
  (61, .lastore, 1, 0, 0, 0, [], none),
  (62, .iload_n 1, 1, 0, 0, 0, [], none),
  (63, .istore 5, 2, 0, 0, 0, [], none),
  (65, .iload 5, 2, 0, 0, 0, [], none),
  (67, .iload_n 2, 1, 0, 0, 0, [], none),
  (68, .if_icmp .ge 69, 3, 0, 0, 0, [137], none),
  (71, .iload_n 3, 1, 0, 0, 0, [], none),
  (72, .iload 5, 2, 0, 0, 0, [], none),
  (74, .if_icmp .gt 10, 3, 0, 0, 0, [84], none),
  (77, .iload 5, 2, 0, 0, 0, [], none),
  (79, .iconst 1, 1, 0, 0, 0, [], none),
  (80, .iadd, 1, 0, 0, 0, [], none),
  (81, .goto 4, 3, 0, 0, 0, [85], none),
  (84, .iload_n 1, 1, 0, 0, 0, [], none),
  (85, .istore 6, 2, 0, 0, 0, [], none),
  (87, .iload_n 3, 1, 0, 0, 0, [], none),
  (88, .iload 5, 2, 0, 0, 0, [], none),
  (90, .if_icmp .gt 7, 3, 0, 0, 0, [97], none),
  (93, .iload_n 2, 1, 0, 0, 0, [], none),
  (94, .goto 5, 3, 0, 0, 0, [99], none),
  (97, .iload 5, 2, 0, 0, 0, [], none),
  (99, .istore 7, 2, 0, 0, 0, [], none),
  (101, .iload 6, 2, 0, 0, 0, [], none),
  (103, .istore 8, 2, 0, 0, 0, [], none),
  (105, .iload 8, 2, 0, 0, 0, [], none),
  (107, .iload 7, 2, 0, 0, 0, [], none),
  (109, .if_icmp .gt 22, 3, 0, 0, 0, [131], none),
  (112, .aload_n 0, 1, 0, 0, 0, [], none),
  (113, .iload 4, 2, 0, 0, 0, [], none),
  (115, .iload_n 1, 1, 0, 0, 0, [], none),
  (116, .iload_n 2, 1, 0, 0, 0, [], none),
  (117, .iload_n 3, 1, 0, 0, 0, [], none),
  (118, .iload 5, 2, 0, 0, 0, [], none),
  (120, .iload 8, 2, 0, 0, 0, [], none),
  (122, .invokevirtual 294, 3, 0, 0, 0, [], some mX9_tries),
  (125, .iinc 8 1, 3, 0, 0, 0, [], none),
  (128, .goto (-23), 3, 0, 0, 0, [105], none),
  (131, .iinc 5 1, 3, 0, 0, 0, [], none),
  (134, .goto (-69), 3, 0, 0, 0, [65], none),
  (137, .return_, 1, 0, 0, 0, [], none)]
set_option maxRecDepth 100000 in
theorem kX9_laysOne : ab_def_ok mX9_laysOne rX9_laysOne := ⟨ab_mok_of 1469 108 1468 66 (by decide +kernel), [0, 0, 0, 1470, 0, 0, 1219, 0, 0, 0, 0, 0, 0, 1473, 0, 0, 1220, 0, 0, 0, 0, 1221, 0, 0, 0, 0, 1222, 0, 0, 0, 0, 0, 0, 0, 0, 0, 0, 0, 0, 0, 0, 0, 0, 0, 0, 0, 0, 0, 0, 0, 0, 0, 0, 0, 0, 0, 0, 0, 0, 0, 0, 0, 0, 0, 0, 0, 0, 0, 1474, 0, 0, 0, 0, 0], by decide +kernel⟩
set_option maxRecDepth 100000 in
theorem vX9_laysOne_0 {x : ab_Cx} {d mc ms : Nat} {Post : Option ab_V → List ab_Ob → Prop} (hx : ab_At x mX9_laysOne d mc ms Post) (a1 a2 a3 : Int) (w0 : ab_Ob) (kc ks : Nat)
    (h : (∃ Q1 : Option ab_V → List ab_Ob → Prop, ab_Ct d 0 0 mX9_cube [ab_I a1, ab_I a2, ab_I a3] [] Q1 ∧ (∀ r2 : Int, Q1 (some (ab_I r2)) [] → ((¬ a1 = a2 → ab_J x 26 [some (ab_O 0), some (ab_I a1), some (ab_I a2), some (ab_I a3), some (ab_I r2), none, none, none, none] [ab_I 1000000000, ab_I r2, ab_A 0 27] [w0] kc ks) ∧ (a1 = a2 → ab_J x 26 [some (ab_O 0), some (ab_I a1), some (ab_I a2), some (ab_I a3), some (ab_I r2), none, none, none, none] [ab_I 0, ab_I r2, ab_A 0 27] [w0] kc ks))))) :
    ab_J x 0 [some (ab_O 0), some (ab_I a1), some (ab_I a2), some (ab_I a3), none, none, none, none, none] [] [w0] kc ks := ab_go hx kX9_laysOne.2 18 [(26, [true, true, true, true, true, false, false, false, false]), (61, [true, true, true, true, true, false, false, false, false]), (65, [true, true, true, true, true, true, false, false, false]), (85, [true, true, true, true, true, true, false, false, false]), (99, [true, true, true, true, true, true, true, false, false]), (105, [true, true, true, true, true, true, false, true, true])] 0 h
set_option maxRecDepth 100000 in
theorem vX9_laysOne_26 {x : ab_Cx} {d mc ms : Nat} {Post : Option ab_V → List ab_Ob → Prop} (hx : ab_At x mX9_laysOne d mc ms Post) (l1 l2 l3 l4 t0 t1 : Int) (w0 : ab_Ob) (kc ks : Nat)
    (h : ((0 ≤ t1 ∧ t1 < (w0.2 27).1) ∧ ((0 ≤ l4 ∧ l4 < (w0.2 28).1) ∧ ((0 ≤ l4 ∧ l4 < (w0.2 29).1) ∧ ((¬ l1 = l2 → ab_J x 61 [some (ab_O 0), some (ab_I l1), some (ab_I l2), some (ab_I l3), some (ab_I l4), none, none, none, none] [ab_L 0, ab_I l4, ab_A 0 30] [(ab_pa (ab_pa (ab_pa w0 27 t1 t0) 28 l4 (-2)) 29 l4 (-2))] kc ks) ∧ (l1 = l2 → ab_J x 61 [some (ab_O 0), some (ab_I l1), some (ab_I l2), some (ab_I l3), some (ab_I l4), none, none, none, none] [ab_L 1, ab_I l4, ab_A 0 30] [(ab_pa (ab_pa (ab_pa w0 27 t1 t0) 28 l4 (-2)) 29 l4 (-2))] kc ks)))))) :
    ab_J x 26 [some (ab_O 0), some (ab_I l1), some (ab_I l2), some (ab_I l3), some (ab_I l4), none, none, none, none] [ab_I t0, ab_I t1, ab_A 0 27] [w0] kc ks := ab_go hx kX9_laysOne.2 24 [(26, [true, true, true, true, true, false, false, false, false]), (61, [true, true, true, true, true, false, false, false, false]), (65, [true, true, true, true, true, true, false, false, false]), (85, [true, true, true, true, true, true, false, false, false]), (99, [true, true, true, true, true, true, true, false, false]), (105, [true, true, true, true, true, true, false, true, true])] 26 h
set_option maxRecDepth 100000 in
theorem vX9_laysOne_61 {x : ab_Cx} {d mc ms : Nat} {Post : Option ab_V → List ab_Ob → Prop} (hx : ab_At x mX9_laysOne d mc ms Post) (l1 l2 l3 l4 t0 t1 : Int) (w0 : ab_Ob) (kc ks : Nat)
    (h : ((0 ≤ t1 ∧ t1 < (w0.2 30).1) ∧ ab_J x 65 [some (ab_O 0), some (ab_I l1), some (ab_I l2), some (ab_I l3), some (ab_I l4), some (ab_I l1), none, none, none] [] [(ab_pa w0 30 t1 t0)] kc ks)) :
    ab_J x 61 [some (ab_O 0), some (ab_I l1), some (ab_I l2), some (ab_I l3), some (ab_I l4), none, none, none, none] [ab_L t0, ab_I t1, ab_A 0 30] [w0] kc ks := ab_go hx kX9_laysOne.2 8 [(26, [true, true, true, true, true, false, false, false, false]), (61, [true, true, true, true, true, false, false, false, false]), (65, [true, true, true, true, true, true, false, false, false]), (85, [true, true, true, true, true, true, false, false, false]), (99, [true, true, true, true, true, true, true, false, false]), (105, [true, true, true, true, true, true, false, true, true])] 61 h
set_option maxRecDepth 100000 in
theorem vX9_laysOne_65 {x : ab_Cx} {d mc ms : Nat} {Post : Option ab_V → List ab_Ob → Prop} (hx : ab_At x mX9_laysOne d mc ms Post) (l1 l2 l3 l4 l5 : Int) (w0 : ab_Ob) (kc ks : Nat)
    (h : ((l2 ≤ l5 → Post none [w0]) ∧ (¬ l2 ≤ l5 → ((l5 < l3 → ab_J x 85 [some (ab_O 0), some (ab_I l1), some (ab_I l2), some (ab_I l3), some (ab_I l4), some (ab_I l5), none, none, none] [ab_I l1] [w0] kc ks) ∧ (¬ l5 < l3 → ((-2147483648 ≤ l5 + 1 ∧ l5 + 1 ≤ 2147483647) ∧ ab_J x 85 [some (ab_O 0), some (ab_I l1), some (ab_I l2), some (ab_I l3), some (ab_I l4), some (ab_I l5), none, none, none] [ab_I (l5 + 1)] [w0] kc ks)))))) :
    ab_J x 65 [some (ab_O 0), some (ab_I l1), some (ab_I l2), some (ab_I l3), some (ab_I l4), some (ab_I l5), none, none, none] [] [w0] kc ks := ab_go hx kX9_laysOne.2 15 [(26, [true, true, true, true, true, false, false, false, false]), (61, [true, true, true, true, true, false, false, false, false]), (65, [true, true, true, true, true, true, false, false, false]), (85, [true, true, true, true, true, true, false, false, false]), (99, [true, true, true, true, true, true, true, false, false]), (105, [true, true, true, true, true, true, false, true, true])] 65 h
set_option maxRecDepth 100000 in
theorem vX9_laysOne_85 {x : ab_Cx} {d mc ms : Nat} {Post : Option ab_V → List ab_Ob → Prop} (hx : ab_At x mX9_laysOne d mc ms Post) (l1 l2 l3 l4 l5 t0 : Int) (w0 : ab_Ob) (kc ks : Nat)
    (h : ((l5 < l3 → ab_J x 99 [some (ab_O 0), some (ab_I l1), some (ab_I l2), some (ab_I l3), some (ab_I l4), some (ab_I l5), some (ab_I t0), none, none] [ab_I l5] [w0] kc ks) ∧ (¬ l5 < l3 → ab_J x 99 [some (ab_O 0), some (ab_I l1), some (ab_I l2), some (ab_I l3), some (ab_I l4), some (ab_I l5), some (ab_I t0), none, none] [ab_I l2] [w0] kc ks))) :
    ab_J x 85 [some (ab_O 0), some (ab_I l1), some (ab_I l2), some (ab_I l3), some (ab_I l4), some (ab_I l5), none, none, none] [ab_I t0] [w0] kc ks := ab_go hx kX9_laysOne.2 11 [(26, [true, true, true, true, true, false, false, false, false]), (61, [true, true, true, true, true, false, false, false, false]), (65, [true, true, true, true, true, true, false, false, false]), (85, [true, true, true, true, true, true, false, false, false]), (99, [true, true, true, true, true, true, true, false, false]), (105, [true, true, true, true, true, true, false, true, true])] 85 h
set_option maxRecDepth 100000 in
theorem vX9_laysOne_99 {x : ab_Cx} {d mc ms : Nat} {Post : Option ab_V → List ab_Ob → Prop} (hx : ab_At x mX9_laysOne d mc ms Post) (l1 l2 l3 l4 l5 l6 t0 : Int) (w0 : ab_Ob) (kc ks : Nat)
    (h : ab_J x 105 [some (ab_O 0), some (ab_I l1), some (ab_I l2), some (ab_I l3), some (ab_I l4), some (ab_I l5), none, some (ab_I t0), some (ab_I l6)] [] [w0] kc ks) :
    ab_J x 99 [some (ab_O 0), some (ab_I l1), some (ab_I l2), some (ab_I l3), some (ab_I l4), some (ab_I l5), some (ab_I l6), none, none] [ab_I t0] [w0] kc ks := ab_go hx kX9_laysOne.2 8 [(26, [true, true, true, true, true, false, false, false, false]), (61, [true, true, true, true, true, false, false, false, false]), (65, [true, true, true, true, true, true, false, false, false]), (85, [true, true, true, true, true, true, false, false, false]), (99, [true, true, true, true, true, true, true, false, false]), (105, [true, true, true, true, true, true, false, true, true])] 99 h
set_option maxRecDepth 100000 in
theorem vX9_laysOne_105 {x : ab_Cx} {d mc ms : Nat} {Post : Option ab_V → List ab_Ob → Prop} (hx : ab_At x mX9_laysOne d mc ms Post) (l1 l2 l3 l4 l5 l7 l8 : Int) (w0 : ab_Ob) (kc ks : Nat)
    (h : ((l7 < l8 → ((-2147483648 ≤ l5 + 1 ∧ l5 + 1 ≤ 2147483647) ∧ ab_J x 65 [some (ab_O 0), some (ab_I l1), some (ab_I l2), some (ab_I l3), some (ab_I l4), some (ab_I (l5 + 1)), none, none, none] [] [w0] kc ks)) ∧ (¬ l7 < l8 → (∃ Q1 : Option ab_V → List ab_Ob → Prop, ab_Ct d 0 0 mX9_tries [ab_O 0, ab_I l4, ab_I l1, ab_I l2, ab_I l3, ab_I l5, ab_I l8] [w0] Q1 ∧ (∀ v2 : ab_Ob, Q1 none [v2] → ((-2147483648 ≤ l8 + 1 ∧ l8 + 1 ≤ 2147483647) ∧ ab_J x 105 [some (ab_O 0), some (ab_I l1), some (ab_I l2), some (ab_I l3), some (ab_I l4), some (ab_I l5), none, some (ab_I l7), some (ab_I (l8 + 1))] [] [v2] kc ks)))))) :
    ab_J x 105 [some (ab_O 0), some (ab_I l1), some (ab_I l2), some (ab_I l3), some (ab_I l4), some (ab_I l5), none, some (ab_I l7), some (ab_I l8)] [] [w0] kc ks := ab_go hx kX9_laysOne.2 18 [(26, [true, true, true, true, true, false, false, false, false]), (61, [true, true, true, true, true, false, false, false, false]), (65, [true, true, true, true, true, true, false, false, false]), (85, [true, true, true, true, true, true, false, false, false]), (99, [true, true, true, true, true, true, true, false, false]), (105, [true, true, true, true, true, true, false, true, true])] 105 h
def mX9_headOf : ab_M := ((yX9_headOf, cX9_headOf, 5, (some .int)), ([9], [(0, 0)], [false], false, false, 0), (false, 9, 2))
def rX9_headOf : List ab_R := [(0, .iload_n 1, 1, 0, 0, 0, [], none),
  (1, .istore_n 3, 1, 0, 0, 0, [], none),
  (2, .iload_n 1, 1, 0, 0, 0, [], none),
  (3, .iconst 1, 1, 0, 0, 0, [], none),
  (4, .iadd, 1, 0, 0, 0, [], none),
  (5, .istore 4, 2, 0, 0, 0, [], none),
  (7, .iload 4, 2, 0, 0, 0, [], none),
  (9, .iload_n 2, 1, 0, 0, 0, [], none),
  (10, .if_icmp .gt 38, 3, 0, 0, 0, [48], none),
  (13, .aload_n 0, 1, 0, 0, 0, [], none),
  (14, .getfield 33, 3, 9, 27, 0, [], none),
  (17, .iload_n 1, 1, 0, 0, 0, [], none),
  (18, .iload_n 2, 1, 0, 0, 0, [], none),
  (19, .iload 4, 2, 0, 0, 0, [], none),
  (21, .invokestatic 289, 3, 0, 0, 0, [], some mX9_cube),
  (24, .iaload, 1, 0, 0, 0, [], none),
  (25, .aload_n 0, 1, 0, 0, 0, [], none),
  (26, .getfield 33, 3, 9, 27, 0, [], none),
  (29, .iload_n 1, 1, 0, 0, 0, [], none),
  (30, .iload_n 2, 1, 0, 0, 0, [], none),
  (31, .iload_n 3, 1, 0, 0, 0, [], none),
  (32, .invokestatic 289, 3, 0, 0, 0, [], some mX9_cube),
  (35, .iaload, 1, 0, 0, 0, [], none),
  (36, .if_icmp .ge 6, 3, 0, 0, 0, [42], none),
  (39, .iload 4, 2, 0, 0, 0, [], none),
  (41, .istore_n 3, 1, 0, 0, 0, [], none),
  (42, .iinc 4 1, 3, 0, 0, 0, [], none),
  (45, .goto (-38), 3, 0, 0, 0, [7], none),
  (48, .iload_n 3, 1, 0, 0, 0, [], none),
  (49, .ireturn, 1, 0, 0, 0, [], none)]
set_option maxRecDepth 100000 in
theorem kX9_headOf : ab_def_ok mX9_headOf rX9_headOf := ⟨ab_mok_of 1504 108 1503 72 (by decide +kernel), [0, 0, 0, 0, 0, 0, 0, 0, 0, 0, 1219, 0, 0, 0, 1470, 0, 0, 1219, 0, 0, 0, 1470, 0, 0, 0, 0, 0, 0, 0, 0], by decide +kernel⟩
set_option maxRecDepth 100000 in
theorem vX9_headOf_0 {x : ab_Cx} {d mc ms : Nat} {Post : Option ab_V → List ab_Ob → Prop} (hx : ab_At x mX9_headOf d mc ms Post) (a1 a2 : Int) (w0 : ab_Ob) (kc ks : Nat)
    (h : ((-2147483648 ≤ a1 + 1 ∧ a1 + 1 ≤ 2147483647) ∧ ab_J x 7 [some (ab_O 0), some (ab_I a1), some (ab_I a2), some (ab_I a1), some (ab_I (a1 + 1))] [] [w0] kc ks)) :
    ab_J x 0 [some (ab_O 0), some (ab_I a1), some (ab_I a2), none, none] [] [w0] kc ks := ab_go hx kX9_headOf.2 11 [(7, [true, true, true, true, true])] 0 h
set_option maxRecDepth 100000 in
theorem vX9_headOf_7 {x : ab_Cx} {d mc ms : Nat} {Post : Option ab_V → List ab_Ob → Prop} (hx : ab_At x mX9_headOf d mc ms Post) (l1 l2 l3 l4 : Int) (w0 : ab_Ob) (kc ks : Nat)
    (h : ((l2 < l4 → Post (some (ab_I l3)) [w0]) ∧ (¬ l2 < l4 → (∃ Q1 : Option ab_V → List ab_Ob → Prop, ab_Ct d 0 0 mX9_cube [ab_I l1, ab_I l2, ab_I l4] [] Q1 ∧ (∀ r2 : Int, Q1 (some (ab_I r2)) [] → ((0 ≤ r2 ∧ r2 < (w0.2 27).1) ∧ (∃ Q3 : Option ab_V → List ab_Ob → Prop, ab_Ct d 0 0 mX9_cube [ab_I l1, ab_I l2, ab_I l3] [] Q3 ∧ (∀ r4 : Int, Q3 (some (ab_I r4)) [] → ((0 ≤ r4 ∧ r4 < (w0.2 27).1) ∧ ((((w0.2 27).2 r4) ≤ ((w0.2 27).2 r2) → ((-2147483648 ≤ l4 + 1 ∧ l4 + 1 ≤ 2147483647) ∧ ab_J x 7 [some (ab_O 0), some (ab_I l1), some (ab_I l2), some (ab_I l3), some (ab_I (l4 + 1))] [] [w0] kc ks)) ∧ (¬ ((w0.2 27).2 r4) ≤ ((w0.2 27).2 r2) → ((-2147483648 ≤ l4 + 1 ∧ l4 + 1 ≤ 2147483647) ∧ ab_J x 7 [some (ab_O 0), some (ab_I l1), some (ab_I l2), some (ab_I l4), some (ab_I (l4 + 1))] [] [w0] kc ks)))))))))))) :
    ab_J x 7 [some (ab_O 0), some (ab_I l1), some (ab_I l2), some (ab_I l3), some (ab_I l4)] [] [w0] kc ks := ab_go hx kX9_headOf.2 27 [(7, [true, true, true, true, true])] 7 h
def mX9_goes : ab_M := ((yX9_goes, cX9_goes, 5, none), ([9], [(0, 0)], [true], false, false, 0), (false, 9, 4))
def rX9_goes : List ab_R := [(0, .aload_n 0, 1, 0, 0, 0, [], none),
  (1, .getfield 61, 3, 9, 36, 0, [], none),
  (4, .aload_n 0, 1, 0, 0, 0, [], none),
  (5, .getfield 321, 3, 9, 41, 0, [], none),
  (8, .iload_n 1, 1, 0, 0, 0, [], none),
  (9, .iastore, 1, 0, 0, 0, [], none),
  (10, .aload_n 0, 1, 0, 0, 0, [], none),
  (11, .getfield 64, 3, 9, 37, 0, [], none),
  (14, .aload_n 0, 1, 0, 0, 0, [], none),
  (15, .getfield 321, 3, 9, 41, 0, [], none),
  (18, .iload_n 2, 1, 0, 0, 0, [], none),
  (19, .iastore, 1, 0, 0, 0, [], none),
  (20, .aload_n 0, 1, 0, 0, 0, [], none),
  (21, .getfield 67, 3, 9, 38, 0, [], none),
  (24, .aload_n 0, 1, 0, 0, 0, [], none),
  (25, .getfield 321, 3, 9, 41, 0, [], none),
  (28, .iload_n 3, 1, 0, 0, 0, [], none),
  (29, .iastore, 1, 0, 0, 0, [], none),
  (30, .aload_n 0, 1, 0, 0, 0, [], none),
  (31, .getfield 70, 3, 9, 39, 0, [], none),
  (34, .aload_n 0, 1, 0, 0, 0, [], none),
  (35, .getfield 321, 3, 9, 41, 0, [], none),
  (38, .iload 4, 2, 0, 0, 0, [], none),
  (40, .iastore, 1, 0, 0, 0, [], none),
  (41, .aload_n 0, 1, 0, 0, 0, [], none),
  (42, .dup, 1, 0, 0, 0, [], none),
  (43, .getfield 321, 3, 9, 41, 0, [], none),
  (46, .iconst 1, 1, 0, 0, 0, [], none),
  (47, .iadd, 1, 0, 0, 0, [], none),
  (48, .putfield 321, 3, 9, 41, 0, [], none),
  (51, .return_, 1, 0, 0, 0, [], none)]
set_option maxRecDepth 100000 in
theorem kX9_goes : ab_def_ok mX9_goes rX9_goes := ⟨ab_mok_of 1508 108 1507 73 (by decide +kernel), [0, 1228, 0, 1233, 0, 0, 0, 1229, 0, 1233, 0, 0, 0, 1230, 0, 1233, 0, 0, 0, 1231, 0, 1233, 0, 0, 0, 0, 1233, 0, 0, 1233, 0], by decide +kernel⟩
set_option maxRecDepth 100000 in
theorem vX9_goes_0 {x : ab_Cx} {d mc ms : Nat} {Post : Option ab_V → List ab_Ob → Prop} (hx : ab_At x mX9_goes d mc ms Post) (a1 a2 a3 a4 : Int) (w0 : ab_Ob) (kc ks : Nat)
    (h : ((0 ≤ (w0.1 41) ∧ (w0.1 41) < (w0.2 36).1) ∧ ((0 ≤ (w0.1 41) ∧ (w0.1 41) < (w0.2 37).1) ∧ ((0 ≤ (w0.1 41) ∧ (w0.1 41) < (w0.2 38).1) ∧ ((0 ≤ (w0.1 41) ∧ (w0.1 41) < (w0.2 39).1) ∧ ((-2147483648 ≤ (w0.1 41) + 1 ∧ (w0.1 41) + 1 ≤ 2147483647) ∧ Post none [(ab_pf (ab_pa (ab_pa (ab_pa (ab_pa w0 36 (w0.1 41) a1) 37 (w0.1 41) a2) 38 (w0.1 41) a3) 39 (w0.1 41) a4) 41 ((w0.1 41) + 1))])))))) :
    ab_J x 0 [some (ab_O 0), some (ab_I a1), some (ab_I a2), some (ab_I a3), some (ab_I a4)] [] [w0] kc ks := ab_go hx kX9_goes.2 35 [] 0 h
