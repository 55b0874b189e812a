def mX5_excess : ab_M := ((yX5_excess, cX5_excess, 2, (some .int)), ([], [], [], false, false, 0), (true, 5, 2))
def rX5_excess : List ab_R := [(0, .iload_n 0, 1, 0, 0, 0, [], none),
  (1, .iload_n 1, 1, 0, 0, 0, [], none),
  (2, .if_icmp .le 9, 3, 0, 0, 0, [11], none),
  (5, .iload_n 0, 1, 0, 0, 0, [], none),
  (6, .iload_n 1, 1, 0, 0, 0, [], none),
  (7, .isub, 1, 0, 0, 0, [], none),
  (8, .goto 4, 3, 0, 0, 0, [12], none),
  (11, .iconst 0, 1, 0, 0, 0, [], none),
  (12, .ireturn, 1, 0, 0, 0, [], none)]
set_option maxRecDepth 100000 in
theorem kX5_excess : ab_def_ok mX5_excess rX5_excess := ⟨ab_mok_of 668 101 667 0 (by decide +kernel), [0, 0, 0, 0, 0, 0, 0, 0, 0], by decide +kernel⟩
set_option maxRecDepth 100000 in
theorem vX5_excess_0 {x : ab_Cx} {d mc ms : Nat} {Post : Option ab_V → List ab_Ob → Prop} (hx : ab_At x mX5_excess d mc ms Post) (a0 a1 : Int) (kc ks : Nat)
    (h : ((a0 ≤ a1 → Post (some (ab_I 0)) []) ∧ (¬ a0 ≤ a1 → ((-2147483648 ≤ a0 - a1 ∧ a0 - a1 ≤ 2147483647) ∧ Post (some (ab_I (a0 - a1))) [])))) :
    ab_J x 0 [some (ab_I a0), some (ab_I a1)] [] [] kc ks := ab_go hx kX5_excess.2 12 [] 0 h
def mX5_units : ab_M := ((yX5_units, cX5_units, 6, (some .int)), ([5], [(0, 0)], [false], false, false, 0), (false, 5, 5))
def rX5_units : List ab_R := [(0, .iload_n 1, 1, 0, 0, 0, [], none),
  (1, .tableswitch 133 0 5 #[39, 55, 71, 87, 108, 117], 39, 0, 0, 0, [134, 40, 56, 72, 88, 109, 118], none),
  (40, .aload_n 0, 1, 0, 0, 0, [], none),
  (41, .getfield 37, 3, 5, 8, 0, [], none),
  (44, .iload_n 3, 1, 0, 0, 0, [], none),
  (45, .iaload, 1, 0, 0, 0, [], none),
  (46, .aload_n 0, 1, 0, 0, 0, [], none),
  (47, .getfield 37, 3, 5, 8, 0, [], none),
  (50, .iload_n 2, 1, 0, 0, 0, [], none),
  (51, .iaload, 1, 0, 0, 0, [], none),
  (52, .invokestatic 60, 3, 0, 0, 0, [], some mX5_excess),
  (55, .ireturn, 1, 0, 0, 0, [], none),
  (56, .aload_n 0, 1, 0, 0, 0, [], none),
  (57, .getfield 28, 3, 5, 5, 0, [], none),
  (60, .iload_n 3, 1, 0, 0, 0, [], none),
  (61, .iaload, 1, 0, 0, 0, [], none),
  (62, .aload_n 0, 1, 0, 0, 0, [], none),
  (63, .getfield 28, 3, 5, 5, 0, [], none),
  (66, .iload_n 2, 1, 0, 0, 0, [], none),
  (67, .iaload, 1, 0, 0, 0, [], none),
  (68, .invokestatic 60, 3, 0, 0, 0, [], some mX5_excess),
  (71, .ireturn, 1, 0, 0, 0, [], none),
  (72, .aload_n 0, 1, 0, 0, 0, [], none),
  (73, .getfield 40, 3, 5, 9, 0, [], none),
  (76, .iload_n 3, 1, 0, 0, 0, [], none),
  (77, .iaload, 1, 0, 0, 0, [], none),
  (78, .aload_n 0, 1, 0, 0, 0, [], none),
  (79, .getfield 40, 3, 5, 9, 0, [], none),
  (82, .iload_n 2, 1, 0, 0, 0, [], none),
  (83, .iaload, 1, 0, 0, 0, [], none),
  (84, .invokestatic 60, 3, 0, 0, 0, [], some mX5_excess),
  (87, .ireturn, 1, 0, 0, 0, [], none),
  (88, .aload_n 0, 1, 0, 0, 0, [], none),
  (89, .getfield 24, 3, 5, 4, 0, [], none),
  (92, .iload_n 3, 1, 0, 0, 0, [], none),
  (93, .iaload, 1, 0, 0, 0, [], none),
  (94, .aload_n 0, 1, 0, 0, 0, [], none),
  (95, .getfield 24, 3, 5, 4, 0, [], none),
  (98, .iload_n 2, 1, 0, 0, 0, [], none),
  (99, .iaload, 1, 0, 0, 0, [], none),
  (100, .isub, 1, 0, 0, 0, [], none),
  (101, .invokestatic 63, 3, 0, 0, 12, [], none),
  (104, .iconst 2, 1, 0, 0, 0, [], none),
  (105, .invokestatic 60, 3, 0, 0, 0, [], some mX5_excess),
  (108, .ireturn, 1, 0, 0, 0, [], none),
  (109, .iload 4, 2, 0, 0, 0, [], none),
  (111, .iload 5, 2, 0, 0, 0, [], none),
  (113, .isub, 1, 0, 0, 0, [], none),
  (114, .invokestatic 63, 3, 0, 0, 12, [], none),
  (117, .ireturn, 1, 0, 0, 0, [], none),
  (118, .iload_n 3, 1, 0, 0, 0, [], none),
  (119, .aload_n 0, 1, 0, 0, 0, [], none),
  (120, .getfield 21, 3, 5, 3, 0, [], none),
  (123, .iconst 1, 1, 0, 0, 0, [], none),
  (124, .isub, 1, 0, 0, 0, [], none),
  (125, .if_icmp .ne 7, 3, 0, 0, 0, [132], none),
  (128, .iconst 1, 1, 0, 0, 0, [], none),
  (129, .goto 4, 3, 0, 0, 0, [133], none),
  (132, .iconst 0, 1, 0, 0, 0, [], none),
  (133, .ireturn, 1, 0, 0, 0, [], none),
  (134, .iconst 0, 1, 0, 0, 0, [], none),
  (135, .ireturn, 1, 0, 0, 0, [], none)]
set_option maxRecDepth 100000 in
theorem kX5_units : ab_def_ok mX5_units rX5_units := ⟨ab_mok_of 665 101 663 664 (by decide +kernel), [0, 0, 0, 164, 0, 0, 0, 164, 0, 0, 666, 0, 0, 155, 0, 0, 0, 155, 0, 0, 666, 0, 0, 166, 0, 0, 0, 166, 0, 0, 666, 0, 0, 152, 0, 0, 0, 152, 0, 0, 0, 669, 0, 666, 0, 0, 0, 0, 669, 0, 0, 0, 147, 0, 0, 0, 0, 0, 0, 0, 0, 0], by decide +kernel⟩
set_option maxRecDepth 100000 in
theorem vX5_units_0 {x : ab_Cx} {d mc ms : Nat} {Post : Option ab_V → List ab_Ob → Prop} (hx : ab_At x mX5_units d mc ms Post) (a1 a2 a3 a4 a5 : Int) (w0 : ab_Ob) (kc ks : Nat)
    (h : ((a1 < 0 ∨ 5 < a1 → Post (some (ab_I 0)) [w0]) ∧ ((a1 = 0 → ((0 ≤ a3 ∧ a3 < (w0.2 8).1) ∧ ((0 ≤ a2 ∧ a2 < (w0.2 8).1) ∧ (∃ Q7 : Option ab_V → List ab_Ob → Prop, ab_Ct d 0 0 mX5_excess [ab_I ((w0.2 8).2 a3), ab_I ((w0.2 8).2 a2)] [] Q7 ∧ (∀ r8 : Int, Q7 (some (ab_I r8)) [] → Post (some (ab_I r8)) [w0]))))) ∧ ((a1 = 1 → ((0 ≤ a3 ∧ a3 < (w0.2 5).1) ∧ ((0 ≤ a2 ∧ a2 < (w0.2 5).1) ∧ (∃ Q5 : Option ab_V → List ab_Ob → Prop, ab_Ct d 0 0 mX5_excess [ab_I ((w0.2 5).2 a3), ab_I ((w0.2 5).2 a2)] [] Q5 ∧ (∀ r6 : Int, Q5 (some (ab_I r6)) [] → Post (some (ab_I r6)) [w0]))))) ∧ ((a1 = 2 → ((0 ≤ a3 ∧ a3 < (w0.2 9).1) ∧ ((0 ≤ a2 ∧ a2 < (w0.2 9).1) ∧ (∃ Q3 : Option ab_V → List ab_Ob → Prop, ab_Ct d 0 0 mX5_excess [ab_I ((w0.2 9).2 a3), ab_I ((w0.2 9).2 a2)] [] Q3 ∧ (∀ r4 : Int, Q3 (some (ab_I r4)) [] → Post (some (ab_I r4)) [w0]))))) ∧ ((a1 = 3 → ((0 ≤ a3 ∧ a3 < (w0.2 4).1) ∧ ((0 ≤ a2 ∧ a2 < (w0.2 4).1) ∧ ((-2147483648 ≤ ((w0.2 4).2 a3) - ((w0.2 4).2 a2) ∧ ((w0.2 4).2 a3) - ((w0.2 4).2 a2) ≤ 2147483647) ∧ ((-2147483648 ≤ -(((w0.2 4).2 a3) - ((w0.2 4).2 a2)) ∧ -(((w0.2 4).2 a3) - ((w0.2 4).2 a2)) ≤ 2147483647) ∧ (∃ Q1 : Option ab_V → List ab_Ob → Prop, ab_Ct d 0 0 mX5_excess [ab_I (if 0 ≤ (((w0.2 4).2 a3) - ((w0.2 4).2 a2)) then (((w0.2 4).2 a3) - ((w0.2 4).2 a2)) else 0 - (((w0.2 4).2 a3) - ((w0.2 4).2 a2))), ab_I 2] [] Q1 ∧ (∀ r2 : Int, Q1 (some (ab_I r2)) [] → Post (some (ab_I r2)) [w0]))))))) ∧ ((a1 = 4 → ((-2147483648 ≤ a4 - a5 ∧ a4 - a5 ≤ 2147483647) ∧ ((-2147483648 ≤ -(a4 - a5) ∧ -(a4 - a5) ≤ 2147483647) ∧ Post (some (ab_I (if 0 ≤ (a4 - a5) then (a4 - a5) else 0 - (a4 - a5)))) [w0]))) ∧ ((a1 = 5 → ((-2147483648 ≤ (w0.1 3) - 1 ∧ (w0.1 3) - 1 ≤ 2147483647) ∧ ((¬ a3 = ((w0.1 3) - 1) → Post (some (ab_I 0)) [w0]) ∧ (a3 = ((w0.1 3) - 1) → Post (some (ab_I 1)) [w0])))) ∧ True)))))))) :
    ab_J x 0 [some (ab_O 0), some (ab_I a1), some (ab_I a2), some (ab_I a3), some (ab_I a4), some (ab_I a5)] [] [w0] kc ks := ab_go hx kX5_units.2 19 [] 0 h
def mX5_breaking : ab_M := ((yX5_breaking, cX5_breaking, 7, (some .int)), ([5], [(0, 0)], [false], false, false, 0), (false, 5, 4))
def rX5_breaking : List ab_R := [(0, .iconst 0, 1, 0, 0, 0, [], none),
  (1, .istore 5, 2, 0, 0, 0, [], none),
  (3, .iconst 0, 1, 0, 0, 0, [], none),
  (4, .istore 6, 2, 0, 0, 0, [], none),
  (6, .iload 6, 2, 0, 0, 0, [], none),
  (8, .bipush 6, 2, 0, 0, 0, [], none),
  (10, .if_icmp .ge 33, 3, 0, 0, 0, [43], none),
  (13, .iload 5, 2, 0, 0, 0, [], none),
  (15, .aload_n 0, 1, 0, 0, 0, [], none),
  (16, .getfield 31, 3, 5, 6, 0, [], none),
  (19, .iload 6, 2, 0, 0, 0, [], none),
  (21, .iaload, 1, 0, 0, 0, [], none),
  (22, .aload_n 0, 1, 0, 0, 0, [], none),
  (23, .iload 6, 2, 0, 0, 0, [], none),
  (25, .iload_n 1, 1, 0, 0, 0, [], none),
  (26, .iload_n 2, 1, 0, 0, 0, [], none),
  (27, .iload_n 3, 1, 0, 0, 0, [], none),
  (28, .iload 4, 2, 0, 0, 0, [], none),
  (30, .invokevirtual 66, 3, 0, 0, 0, [], some mX5_units),
  (33, .imul, 1, 0, 0, 0, [], none),
  (34, .iadd, 1, 0, 0, 0, [], none),
  (35, .istore 5, 2, 0, 0, 0, [], none),
  (37, .iinc 6 1, 3, 0, 0, 0, [], none),
  (40, .goto (-34), 3, 0, 0, 0, [6], none),
  (43, .iload 5, 2, 0, 0, 0, [], none),
  (45, .ireturn, 1, 0, 0, 0, [], none)]
set_option maxRecDepth 100000 in
theorem kX5_breaking : ab_def_ok mX5_breaking rX5_breaking := ⟨ab_mok_of 661 101 659 660 (by decide +kernel), [0, 0, 0, 0, 0, 0, 0, 0, 0, 157, 0, 0, 0, 0, 0, 0, 0, 0, 662, 0, 0, 0, 0, 0, 0, 0], by decide +kernel⟩
set_option maxRecDepth 100000 in
theorem vX5_breaking_0 {x : ab_Cx} {d mc ms : Nat} {Post : Option ab_V → List ab_Ob → Prop} (hx : ab_At x mX5_breaking d mc ms Post) (a1 a2 a3 a4 : Int) (w0 : ab_Ob) (kc ks : Nat)
    (h : ab_J x 6 [some (ab_O 0), some (ab_I a1), some (ab_I a2), some (ab_I a3), some (ab_I a4), some (ab_I 0), some (ab_I 0)] [] [w0] kc ks) :
    ab_J x 0 [some (ab_O 0), some (ab_I a1), some (ab_I a2), some (ab_I a3), some (ab_I a4), none, none] [] [w0] kc ks := ab_go hx kX5_breaking.2 9 [(6, [true, true, true, true, true, true, true])] 0 h
set_option maxRecDepth 100000 in
theorem vX5_breaking_6 {x : ab_Cx} {d mc ms : Nat} {Post : Option ab_V → List ab_Ob → Prop} (hx : ab_At x mX5_breaking d mc ms Post) (l1 l2 l3 l4 l5 l6 : Int) (w0 : ab_Ob) (kc ks : Nat)
    (h : ((6 ≤ l6 → Post (some (ab_I l5)) [w0]) ∧ (¬ 6 ≤ l6 → ((0 ≤ l6 ∧ l6 < (w0.2 6).1) ∧ (∃ Q1 : Option ab_V → List ab_Ob → Prop, ab_Ct d 0 0 mX5_units [ab_O 0, ab_I l6, ab_I l1, ab_I l2, ab_I l3, ab_I l4] [w0] Q1 ∧ (∀ r2 : Int, Q1 (some (ab_I r2)) [w0] → ((-2147483648 ≤ ((w0.2 6).2 l6) * r2 ∧ ((w0.2 6).2 l6) * r2 ≤ 2147483647) ∧ ((-2147483648 ≤ l5 + (((w0.2 6).2 l6) * r2) ∧ l5 + (((w0.2 6).2 l6) * r2) ≤ 2147483647) ∧ ((-2147483648 ≤ l6 + 1 ∧ l6 + 1 ≤ 2147483647) ∧ ab_J x 6 [some (ab_O 0), some (ab_I l1), some (ab_I l2), some (ab_I l3), some (ab_I l4), some (ab_I (l5 + (((w0.2 6).2 l6) * r2))), some (ab_I (l6 + 1))] [] [w0] kc ks))))))))) :
    ab_J x 6 [some (ab_O 0), some (ab_I l1), some (ab_I l2), some (ab_I l3), some (ab_I l4), some (ab_I l5), some (ab_I l6)] [] [w0] kc ks := ab_go hx kX5_breaking.2 25 [(6, [true, true, true, true, true, true, true])] 6 h
def mX5_empty : ab_M := ((yX5_empty, cX5_empty, 2, none), ([5], [(0, 0)], [true], false, false, 0), (false, 5, 0))
def rX5_empty : List ab_R := [(0, .aload_n 0, 1, 0, 0, 0, [], none),
  (1, .iconst 1, 1, 0, 0, 0, [], none),
  (2, .putfield 9, 3, 5, 0, 0, [], none),
  (5, .aload_n 0, 1, 0, 0, 0, [], none),
  (6, .iconst 1, 1, 0, 0, 0, [], none),
  (7, .putfield 15, 3, 5, 1, 0, [], none),
  (10, .aload_n 0, 1, 0, 0, 0, [], none),
  (11, .iconst 0, 1, 0, 0, 0, [], none),
  (12, .putfield 18, 3, 5, 2, 0, [], none),
  (15, .aload_n 0, 1, 0, 0, 0, [], none),
  (16, .iconst 0, 1, 0, 0, 0, [], none),
  (17, .putfield 21, 3, 5, 3, 0, [], none),
  (20, .iconst 0, 1, 0, 0, 0, [], none),
  (21, .istore_n 1, 1, 0, 0, 0, [], none),
  (22, .iload_n 1, 1, 0, 0, 0, [], none),
  (23, .bipush 6, 2, 0, 0, 0, [], none),
  (25, .if_icmp .ge 16, 3, 0, 0, 0, [41], none),
  (28, .aload_n 0, 1, 0, 0, 0, [], none),
  (29, .getfield 31, 3, 5, 6, 0, [], none),
  (32, .iload_n 1, 1, 0, 0, 0, [], none),
  (33, .iconst 0, 1, 0, 0, 0, [], none),
  (34, .iastore, 1, 0, 0, 0, [], none),
  (35, .iinc 1 1, 3, 0, 0, 0, [], none),
  (38, .goto (-16), 3, 0, 0, 0, [22], none),
  (41, .return_, 1, 0, 0, 0, [], none)]
set_option maxRecDepth 100000 in
theorem kX5_empty : ab_def_ok mX5_empty rX5_empty := ⟨ab_mok_of 467 101 465 466 (by decide +kernel), [0, 0, 138, 0, 0, 141, 0, 0, 144, 0, 0, 147, 0, 0, 0, 0, 0, 0, 157, 0, 0, 0, 0, 0, 0], by decide +kernel⟩
set_option maxRecDepth 100000 in
theorem vX5_empty_0 {x : ab_Cx} {d mc ms : Nat} {Post : Option ab_V → List ab_Ob → Prop} (hx : ab_At x mX5_empty d mc ms Post) (w0 : ab_Ob) (kc ks : Nat)
    (h : ab_J x 22 [some (ab_O 0), some (ab_I 0)] [] [(ab_pf (ab_pf (ab_pf (ab_pf w0 0 1) 1 1) 2 0) 3 0)] kc ks) :
    ab_J x 0 [some (ab_O 0), none] [] [w0] kc ks := ab_go hx kX5_empty.2 19 [(22, [true, true])] 0 h
set_option maxRecDepth 100000 in
theorem vX5_empty_22 {x : ab_Cx} {d mc ms : Nat} {Post : Option ab_V → List ab_Ob → Prop} (hx : ab_At x mX5_empty d mc ms Post) (l1 : Int) (w0 : ab_Ob) (kc ks : Nat)
    (h : ((6 ≤ l1 → Post none [w0]) ∧ (¬ 6 ≤ l1 → ((0 ≤ l1 ∧ l1 < (w0.2 6).1) ∧ ((-2147483648 ≤ l1 + 1 ∧ l1 + 1 ≤ 2147483647) ∧ ab_J x 22 [some (ab_O 0), some (ab_I (l1 + 1))] [] [(ab_pa w0 6 l1 0)] kc ks))))) :
    ab_J x 22 [some (ab_O 0), some (ab_I l1)] [] [w0] kc ks := ab_go hx kX5_empty.2 15 [(22, [true, true])] 22 h
def mX5_addNote : ab_M := ((yX5_addNote, cX5_addNote, 3, none), ([5], [(0, 0)], [true], false, false, 0), (false, 5, 2))
def rX5_addNote : List ab_R := [(0, .aload_n 0, 1, 0, 0, 0, [], none),
  (1, .getfield 21, 3, 5, 3, 0, [], none),
  (4, .bipush 24, 2, 0, 0, 0, [], none),
  (6, .if_icmp .ge 33, 3, 0, 0, 0, [39], none),
  (9, .aload_n 0, 1, 0, 0, 0, [], none),
  (10, .getfield 24, 3, 5, 4, 0, [], none),
  (13, .aload_n 0, 1, 0, 0, 0, [], none),
  (14, .getfield 21, 3, 5, 3, 0, [], none),
  (17, .iload_n 1, 1, 0, 0, 0, [], none),
  (18, .iastore, 1, 0, 0, 0, [], none),
  (19, .aload_n 0, 1, 0, 0, 0, [], none),
  (20, .getfield 28, 3, 5, 5, 0, [], none),
  (23, .aload_n 0, 1, 0, 0, 0, [], none),
  (24, .getfield 21, 3, 5, 3, 0, [], none),
  (27, .iload_n 2, 1, 0, 0, 0, [], none),
  (28, .iastore, 1, 0, 0, 0, [], none),
  (29, .aload_n 0, 1, 0, 0, 0, [], none),
  (30, .dup, 1, 0, 0, 0, [], none),
  (31, .getfield 21, 3, 5, 3, 0, [], none),
  (34, .iconst 1, 1, 0, 0, 0, [], none),
  (35, .iadd, 1, 0, 0, 0, [], none),
  (36, .putfield 21, 3, 5, 3, 0, [], none),
  (39, .return_, 1, 0, 0, 0, [], none)]
set_option maxRecDepth 100000 in
theorem kX5_addNote : ab_def_ok mX5_addNote rX5_addNote := ⟨ab_mok_of 565 101 563 564 (by decide +kernel), [0, 147, 0, 0, 0, 152, 0, 147, 0, 0, 0, 155, 0, 147, 0, 0, 0, 0, 147, 0, 0, 147, 0], by decide +kernel⟩
set_option maxRecDepth 100000 in
theorem vX5_addNote_0 {x : ab_Cx} {d mc ms : Nat} {Post : Option ab_V → List ab_Ob → Prop} (hx : ab_At x mX5_addNote d mc ms Post) (a1 a2 : Int) (w0 : ab_Ob) (kc ks : Nat)
    (h : ((24 ≤ (w0.1 3) → Post none [w0]) ∧ (¬ 24 ≤ (w0.1 3) → ((0 ≤ (w0.1 3) ∧ (w0.1 3) < (w0.2 4).1) ∧ ((0 ≤ (w0.1 3) ∧ (w0.1 3) < (w0.2 5).1) ∧ ((-2147483648 ≤ (w0.1 3) + 1 ∧ (w0.1 3) + 1 ≤ 2147483647) ∧ Post none [(ab_pf (ab_pa (ab_pa w0 4 (w0.1 3) a1) 5 (w0.1 3) a2) 3 ((w0.1 3) + 1))])))))) :
    ab_J x 0 [some (ab_O 0), some (ab_I a1), some (ab_I a2)] [] [w0] kc ks := ab_go hx kX5_addNote.2 27 [] 0 h
def mX5_isMultiple : ab_M := ((yX5_isMultiple, cX5_isMultiple, 2, (some .boolean)), ([], [], [], false, false, 0), (true, 5, 2))
def rX5_isMultiple : List ab_R := [(0, .iload_n 1, 1, 0, 0, 0, [], none),
  (1, .ifCond .le 13, 3, 0, 0, 0, [14], none),
  (4, .iload_n 0, 1, 0, 0, 0, [], none),
  (5, .iload_n 1, 1, 0, 0, 0, [], none),
  (6, .irem, 1, 0, 0, 0, [], none),
  (7, .ifCond .ne 7, 3, 0, 0, 0, [14], none),
  (10, .iconst 1, 1, 0, 0, 0, [], none),
  (11, .goto 4, 3, 0, 0, 0, [15], none),
  (14, .iconst 0, 1, 0, 0, 0, [], none),
  (15, .ireturn, 1, 0, 0, 0, [], none)]
set_option maxRecDepth 100000 in
theorem kX5_isMultiple : ab_def_ok mX5_isMultiple rX5_isMultiple := ⟨ab_mok_of 590 101 589 0 (by decide +kernel), [0, 0, 0, 0, 0, 0, 0, 0, 0, 0], by decide +kernel⟩
set_option maxRecDepth 100000 in
theorem vX5_isMultiple_0 {x : ab_Cx} {d mc ms : Nat} {Post : Option ab_V → List ab_Ob → Prop} (hx : ab_At x mX5_isMultiple d mc ms Post) (a0 a1 : Int) (kc ks : Nat)
    (h : ((a1 ≤ 0 → (((0 : Int) = 0 ∨ (0 : Int) = 1) ∧ Post (some (ab_I 0)) [])) ∧ (¬ a1 ≤ 0 → ((¬ a1 = 0) ∧ ((-2147483648 ≤ (Int.tmod a0 a1) ∧ (Int.tmod a0 a1) ≤ 2147483647) ∧ ((¬ (Int.tmod a0 a1) = 0 → (((0 : Int) = 0 ∨ (0 : Int) = 1) ∧ Post (some (ab_I 0)) [])) ∧ ((Int.tmod a0 a1) = 0 → (((1 : Int) = 0 ∨ (1 : Int) = 1) ∧ Post (some (ab_I 1)) [])))))))) :
    ab_J x 0 [some (ab_I a0), some (ab_I a1)] [] [] kc ks := ab_go hx kX5_isMultiple.2 13 [] 0 h
def mX5_strengthAt : ab_M := ((yX5_strengthAt, cX5_strengthAt, 2, (some .int)), ([5], [(0, 0)], [false], false, false, 0), (false, 5, 1))
def rX5_strengthAt : List ab_R := [(0, .iload_n 1, 1, 0, 0, 0, [], none),
  (1, .aload_n 0, 1, 0, 0, 0, [], none),
  (2, .getfield 9, 3, 5, 0, 0, [], none),
  (5, .invokestatic 50, 3, 0, 0, 0, [], some mX5_isMultiple),
  (8, .ifCond .eq 5, 3, 0, 0, 0, [13], none),
  (11, .iconst 3, 1, 0, 0, 0, [], none),
  (12, .ireturn, 1, 0, 0, 0, [], none),
  (13, .iconst 2, 1, 0, 0, 0, [], none),
  (14, .iload_n 1, 1, 0, 0, 0, [], none),
  (15, .imul, 1, 0, 0, 0, [], none),
  (16, .aload_n 0, 1, 0, 0, 0, [], none),
  (17, .getfield 9, 3, 5, 0, 0, [], none),
  (20, .invokestatic 50, 3, 0, 0, 0, [], some mX5_isMultiple),
  (23, .ifCond .eq 5, 3, 0, 0, 0, [28], none),
  (26, .iconst 2, 1, 0, 0, 0, [], none),
  (27, .ireturn, 1, 0, 0, 0, [], none),
  (28, .iload_n 1, 1, 0, 0, 0, [], none),
  (29, .aload_n 0, 1, 0, 0, 0, [], none),
  (30, .getfield 15, 3, 5, 1, 0, [], none),
  (33, .invokestatic 50, 3, 0, 0, 0, [], some mX5_isMultiple),
  (36, .ifCond .eq 7, 3, 0, 0, 0, [43], none),
  (39, .iconst 1, 1, 0, 0, 0, [], none),
  (40, .goto 4, 3, 0, 0, 0, [44], none),
  (43, .iconst 0, 1, 0, 0, 0, [], none),
  (44, .ireturn, 1, 0, 0, 0, [], none)]
set_option maxRecDepth 100000 in
theorem kX5_strengthAt : ab_def_ok mX5_strengthAt rX5_strengthAt := ⟨ab_mok_of 587 101 586 13 (by decide +kernel), [0, 0, 138, 588, 0, 0, 0, 0, 0, 0, 0, 138, 588, 0, 0, 0, 0, 0, 141, 588, 0, 0, 0, 0, 0], by decide +kernel⟩
set_option maxRecDepth 100000 in
theorem vX5_strengthAt_0 {x : ab_Cx} {d mc ms : Nat} {Post : Option ab_V → List ab_Ob → Prop} (hx : ab_At x mX5_strengthAt d mc ms Post) (a1 : Int) (w0 : ab_Ob) (kc ks : Nat)
    (h : (∃ Q1 : Option ab_V → List ab_Ob → Prop, ab_Ct d 0 0 mX5_isMultiple [ab_I a1, ab_I (w0.1 0)] [] Q1 ∧ (∀ r2 : Int, Q1 (some (ab_I r2)) [] → ((r2 = 0 → ((-2147483648 ≤ 2 * a1 ∧ 2 * a1 ≤ 2147483647) ∧ (∃ Q3 : Option ab_V → List ab_Ob → Prop, ab_Ct d 0 0 mX5_isMultiple [ab_I (2 * a1), ab_I (w0.1 0)] [] Q3 ∧ (∀ r4 : Int, Q3 (some (ab_I r4)) [] → ((r4 = 0 → (∃ Q5 : Option ab_V → List ab_Ob → Prop, ab_Ct d 0 0 mX5_isMultiple [ab_I a1, ab_I (w0.1 1)] [] Q5 ∧ (∀ r6 : Int, Q5 (some (ab_I r6)) [] → ((r6 = 0 → Post (some (ab_I 0)) [w0]) ∧ (¬ r6 = 0 → Post (some (ab_I 1)) [w0]))))) ∧ (¬ r4 = 0 → Post (some (ab_I 2)) [w0])))))) ∧ (¬ r2 = 0 → Post (some (ab_I 3)) [w0]))))) :
    ab_J x 0 [some (ab_O 0), some (ab_I a1)] [] [w0] kc ks := ab_go hx kX5_strengthAt.2 24 [] 0 h
def mX5_stableOf : ab_M := ((yX5_stableOf, cX5_stableOf, 3, (some .int)), ([5], [(0, 0)], [false], false, false, 0), (false, 5, 1))
def rX5_stableOf : List ab_R := [(0, .iload_n 1, 1, 0, 0, 0, [], none),
  (1, .aload_n 0, 1, 0, 0, 0, [], none),
  (2, .getfield 18, 3, 5, 2, 0, [], none),
  (5, .isub, 1, 0, 0, 0, [], none),
  (6, .bipush 12, 2, 0, 0, 0, [], none),
  (8, .invokestatic 54, 3, 0, 0, 0, [], some mJ_floorMod),
  (11, .istore_n 2, 1, 0, 0, 0, [], none),
  (12, .iload_n 2, 1, 0, 0, 0, [], none),
  (13, .ifCond .ne 5, 3, 0, 0, 0, [18], none),
  (16, .iconst 2, 1, 0, 0, 0, [], none),
  (17, .ireturn, 1, 0, 0, 0, [], none),
  (18, .iload_n 2, 1, 0, 0, 0, [], none),
  (19, .iconst 4, 1, 0, 0, 0, [], none),
  (20, .if_icmp .eq 9, 3, 0, 0, 0, [29], none),
  (23, .iload_n 2, 1, 0, 0, 0, [], none),
  (24, .bipush 7, 2, 0, 0, 0, [], none),
  (26, .if_icmp .ne 7, 3, 0, 0, 0, [33], none),
  (29, .iconst 1, 1, 0, 0, 0, [], none),
  (30, .goto 4, 3, 0, 0, 0, [34], none),
  (33, .iconst 0, 1, 0, 0, 0, [], none),
  (34, .ireturn, 1, 0, 0, 0, [], none)]
set_option maxRecDepth 100000 in
theorem kX5_stableOf : ab_def_ok mX5_stableOf rX5_stableOf := ⟨ab_mok_of 594 101 593 14 (by decide +kernel), [0, 0, 144, 0, 0, 595, 0, 0, 0, 0, 0, 0, 0, 0, 0, 0, 0, 0, 0, 0, 0], by decide +kernel⟩
set_option maxRecDepth 100000 in
theorem vX5_stableOf_0 {x : ab_Cx} {d mc ms : Nat} {Post : Option ab_V → List ab_Ob → Prop} (hx : ab_At x mX5_stableOf d mc ms Post) (a1 : Int) (w0 : ab_Ob) (kc ks : Nat)
    (h : ((-2147483648 ≤ a1 - (w0.1 2) ∧ a1 - (w0.1 2) ≤ 2147483647) ∧ (∃ Q1 : Option ab_V → List ab_Ob → Prop, ab_Ct d 0 0 mJ_floorMod [ab_I (a1 - (w0.1 2)), ab_I 12] [] Q1 ∧ (∀ r2 : Int, Q1 (some (ab_I r2)) [] → ((¬ r2 = 0 → ((r2 = 4 → Post (some (ab_I 1)) [w0]) ∧ (¬ r2 = 4 → ((¬ r2 = 7 → Post (some (ab_I 0)) [w0]) ∧ (r2 = 7 → Post (some (ab_I 1)) [w0]))))) ∧ (r2 = 0 → Post (some (ab_I 2)) [w0])))))) :
    ab_J x 0 [some (ab_O 0), some (ab_I a1), none] [] [w0] kc ks := ab_go hx kX5_stableOf.2 22 [] 0 h
def mX5_derive : ab_M := ((yX5_derive, cX5_derive, 3, none), ([5], [(0, 0)], [true], false, false, 0), (false, 5, 0))
def rX5_derive : List ab_R := [(0, .iconst 0, 1, 0, 0, 0, [], none),
  (1, .istore_n 1, 1, 0, 0, 0, [], none),
  (2, .iconst 0, 1, 0, 0, 0, [], none),
  (3, .istore_n 2, 1, 0, 0, 0, [], none),
  (4, .iload_n 2, 1, 0, 0, 0, [], none),
  (5, .aload_n 0, 1, 0, 0, 0, [], none),
  (6, .getfield 21, 3, 5, 3, 0, [], none),
  (9, .if_icmp .ge 52, 3, 0, 0, 0, [61], none),
  (12, .aload_n 0, 1, 0, 0, 0, [], none),
  (13, .getfield 34, 3, 5, 7, 0, [], none),
  (16, .iload_n 2, 1, 0, 0, 0, [], none),
  (17, .iload_n 1, 1, 0, 0, 0, [], none),
  (18, .iastore, 1, 0, 0, 0, [], none),
  (19, .aload_n 0, 1, 0, 0, 0, [], none),
  (20, .getfield 37, 3, 5, 8, 0, [], none),
  (23, .iload_n 2, 1, 0, 0, 0, [], none),
  (24, .aload_n 0, 1, 0, 0, 0, [], none),
  (25, .iload_n 1, 1, 0, 0, 0, [], none),
  (26, .invokevirtual 43, 3, 0, 0, 0, [], some mX5_strengthAt),
  (29, .iastore, 1, 0, 0, 0, [], none),
  (30, .aload_n 0, 1, 0, 0, 0, [], none),
  (31, .getfield 40, 3, 5, 9, 0, [], none),
  (34, .iload_n 2, 1, 0, 0, 0, [], none),
  (35, .aload_n 0, 1, 0, 0, 0, [], none),
  (36, .aload_n 0, 1, 0, 0, 0, [], none),
  (37, .getfield 24, 3, 5, 4, 0, [], none),
  (40, .iload_n 2, 1, 0, 0, 0, [], none),
  (41, .iaload, 1, 0, 0, 0, [], none),
  (42, .invokevirtual 47, 3, 0, 0, 0, [], some mX5_stableOf),
  (45, .iastore, 1, 0, 0, 0, [], none),
  (46, .iload_n 1, 1, 0, 0, 0, [], none),
  (47, .aload_n 0, 1, 0, 0, 0, [], none),
  (48, .getfield 28, 3, 5, 5, 0, [], none),
  (51, .iload_n 2, 1, 0, 0, 0, [], none),
  (52, .iaload, 1, 0, 0, 0, [], none),
  (53, .iadd, 1, 0, 0, 0, [], none),
  (54, .istore_n 1, 1, 0, 0, 0, [], none),
  (55, .iinc 2 1, 3, 0, 0, 0, [], none),
  (58, .goto (-54), 3, 0, 0, 0, [4], none),
  (61, .return_, 1, 0, 0, 0, [], none)]
set_option maxRecDepth 100000 in
theorem kX5_derive : ab_def_ok mX5_derive rX5_derive := ⟨ab_mok_of 583 101 581 582 (by decide +kernel), [0, 0, 0, 0, 0, 0, 147, 0, 0, 162, 0, 0, 0, 0, 164, 0, 0, 0, 584, 0, 0, 166, 0, 0, 0, 152, 0, 0, 591, 0, 0, 0, 155, 0, 0, 0, 0, 0, 0, 0], by decide +kernel⟩
set_option maxRecDepth 100000 in
theorem vX5_derive_0 {x : ab_Cx} {d mc ms : Nat} {Post : Option ab_V → List ab_Ob → Prop} (hx : ab_At x mX5_derive d mc ms Post) (w0 : ab_Ob) (kc ks : Nat)
    (h : ab_J x 4 [some (ab_O 0), some (ab_I 0), some (ab_I 0)] [] [w0] kc ks) :
    ab_J x 0 [some (ab_O 0), none, none] [] [w0] kc ks := ab_go hx kX5_derive.2 9 [(4, [true, true, true])] 0 h
set_option maxRecDepth 100000 in
theorem vX5_derive_4 {x : ab_Cx} {d mc ms : Nat} {Post : Option ab_V → List ab_Ob → Prop} (hx : ab_At x mX5_derive d mc ms Post) (l1 l2 : Int) (w0 : ab_Ob) (kc ks : Nat)
    (h : (((w0.1 3) ≤ l2 → Post none [w0]) ∧ (¬ (w0.1 3) ≤ l2 → ((0 ≤ l2 ∧ l2 < (w0.2 7).1) ∧ (∃ Q1 : Option ab_V → List ab_Ob → Prop, ab_Ct d 0 0 mX5_strengthAt [ab_O 0, ab_I l1] [(ab_pa w0 7 l2 l1)] Q1 ∧ (∀ r2 : Int, Q1 (some (ab_I r2)) [(ab_pa w0 7 l2 l1)] → ((0 ≤ l2 ∧ l2 < (w0.2 8).1) ∧ ((0 ≤ l2 ∧ l2 < (w0.2 4).1) ∧ (∃ Q3 : Option ab_V → List ab_Ob → Prop, ab_Ct d 0 0 mX5_stableOf [ab_O 0, ab_I ((w0.2 4).2 l2)] [(ab_pa (ab_pa w0 7 l2 l1) 8 l2 r2)] Q3 ∧ (∀ r4 : Int, Q3 (some (ab_I r4)) [(ab_pa (ab_pa w0 7 l2 l1) 8 l2 r2)] → ((0 ≤ l2 ∧ l2 < (w0.2 9).1) ∧ ((0 ≤ l2 ∧ l2 < (w0.2 5).1) ∧ ((-2147483648 ≤ l1 + ((w0.2 5).2 l2) ∧ l1 + ((w0.2 5).2 l2) ≤ 2147483647) ∧ ((-2147483648 ≤ l2 + 1 ∧ l2 + 1 ≤ 2147483647) ∧ ab_J x 4 [some (ab_O 0), some (ab_I (l1 + ((w0.2 5).2 l2))), some (ab_I (l2 + 1))] [] [(ab_pa (ab_pa (ab_pa w0 7 l2 l1) 8 l2 r2) 9 l2 r4)] kc ks)))))))))))))) :
    ab_J x 4 [some (ab_O 0), some (ab_I l1), some (ab_I l2)] [] [w0] kc ks := ab_go hx kX5_derive.2 40 [(4, [true, true, true])] 4 h
def mX5_lasting : ab_M := ((yX5_lasting, cX5_lasting, 5, (some .int)), ([5], [(0, 0)], [false], false, false, 0), (false, 5, 2))
def rX5_lasting : List ab_R := [(0, .iconst 0, 1, 0, 0, 0, [], none),
  (1, .istore_n 3, 1, 0, 0, 0, [], none),
  (2, .iload_n 1, 1, 0, 0, 0, [], none),
  (3, .istore 4, 2, 0, 0, 0, [], none),
  (5, .iload 4, 2, 0, 0, 0, [], none),
  (7, .iload_n 2, 1, 0, 0, 0, [], none),
  (8, .if_icmp .gt 19, 3, 0, 0, 0, [27], none),
  (11, .iload_n 3, 1, 0, 0, 0, [], none),
  (12, .aload_n 0, 1, 0, 0, 0, [], none),
  (13, .getfield 28, 3, 5, 5, 0, [], none),
  (16, .iload 4, 2, 0, 0, 0, [], none),
  (18, .iaload, 1, 0, 0, 0, [], none),
  (19, .iadd, 1, 0, 0, 0, [], none),
  (20, .istore_n 3, 1, 0, 0, 0, [], none),
  (21, .iinc 4 1, 3, 0, 0, 0, [], none),
  (24, .goto (-19), 3, 0, 0, 0, [5], none),
  (27, .iload_n 3, 1, 0, 0, 0, [], none),
  (28, .ireturn, 1, 0, 0, 0, [], none)]
set_option maxRecDepth 100000 in
theorem kX5_lasting : ab_def_ok mX5_lasting rX5_lasting := ⟨ab_mok_of 633 101 631 632 (by decide +kernel), [0, 0, 0, 0, 0, 0, 0, 0, 0, 155, 0, 0, 0, 0, 0, 0, 0, 0], by decide +kernel⟩
set_option maxRecDepth 100000 in
theorem vX5_lasting_0 {x : ab_Cx} {d mc ms : Nat} {Post : Option ab_V → List ab_Ob → Prop} (hx : ab_At x mX5_lasting d mc ms Post) (a1 a2 : Int) (w0 : ab_Ob) (kc ks : Nat)
    (h : ab_J x 5 [some (ab_O 0), none, some (ab_I a2), some (ab_I 0), some (ab_I a1)] [] [w0] kc ks) :
    ab_J x 0 [some (ab_O 0), some (ab_I a1), some (ab_I a2), none, none] [] [w0] kc ks := ab_go hx kX5_lasting.2 9 [(5, [true, false, true, true, true])] 0 h
set_option maxRecDepth 100000 in
theorem vX5_lasting_5 {x : ab_Cx} {d mc ms : Nat} {Post : Option ab_V → List ab_Ob → Prop} (hx : ab_At x mX5_lasting d mc ms Post) (l2 l3 l4 : Int) (w0 : ab_Ob) (kc ks : Nat)
    (h : ((l2 < l4 → Post (some (ab_I l3)) [w0]) ∧ (¬ l2 < l4 → ((0 ≤ l4 ∧ l4 < (w0.2 5).1) ∧ ((-2147483648 ≤ l3 + ((w0.2 5).2 l4) ∧ l3 + ((w0.2 5).2 l4) ≤ 2147483647) ∧ ((-2147483648 ≤ l4 + 1 ∧ l4 + 1 ≤ 2147483647) ∧ ab_J x 5 [some (ab_O 0), none, some (ab_I l2), some (ab_I (l3 + ((w0.2 5).2 l4))), some (ab_I (l4 + 1))] [] [w0] kc ks)))))) :
    ab_J x 5 [some (ab_O 0), none, some (ab_I l2), some (ab_I l3), some (ab_I l4)] [] [w0] kc ks := ab_go hx kX5_lasting.2 17 [(5, [true, false, true, true, true])] 5 h
def mX5_weighted : ab_M := ((yX5_weighted, cX5_weighted, 3, (some .int)), ([5], [(0, 0)], [false], false, false, 0), (false, 5, 0))
def rX5_weighted : List ab_R := [(0, .iconst 0, 1, 0, 0, 0, [], none),
  (1, .istore_n 1, 1, 0, 0, 0, [], none),
  (2, .iconst 0, 1, 0, 0, 0, [], none),
  (3, .istore_n 2, 1, 0, 0, 0, [], none),
  (4, .iload_n 2, 1, 0, 0, 0, [], none),
  (5, .bipush 6, 2, 0, 0, 0, [], none),
  (7, .if_icmp .ge 26, 3, 0, 0, 0, [33], none),
  (10, .iload_n 1, 1, 0, 0, 0, [], none),
  (11, .aload_n 0, 1, 0, 0, 0, [], none),
  (12, .getfield 31, 3, 5, 6, 0, [], none),
  (15, .iload_n 2, 1, 0, 0, 0, [], none),
  (16, .iaload, 1, 0, 0, 0, [], none),
  (17, .ifCond .le 7, 3, 0, 0, 0, [24], none),
  (20, .iconst 1, 1, 0, 0, 0, [], none),
  (21, .goto 4, 3, 0, 0, 0, [25], none),
  (24, .iconst 0, 1, 0, 0, 0, [], none),
  (25, .iadd, 1, 0, 0, 0, [], none),
  (26, .istore_n 1, 1, 0, 0, 0, [], none),
  (27, .iinc 2 1, 3, 0, 0, 0, [], none),
  (30, .goto (-26), 3, 0, 0, 0, [4], none),
  (33, .iload_n 1, 1, 0, 0, 0, [], none),
  (34, .ireturn, 1, 0, 0, 0, [], none)]
set_option maxRecDepth 100000 in
theorem kX5_weighted : ab_def_ok mX5_weighted rX5_weighted := ⟨ab_mok_of 637 101 635 636 (by decide +kernel), [0, 0, 0, 0, 0, 0, 0, 0, 0, 157, 0, 0, 0, 0, 0, 0, 0, 0, 0, 0, 0, 0], by decide +kernel⟩
set_option maxRecDepth 100000 in
theorem vX5_weighted_0 {x : ab_Cx} {d mc ms : Nat} {Post : Option ab_V → List ab_Ob → Prop} (hx : ab_At x mX5_weighted d mc ms Post) (w0 : ab_Ob) (kc ks : Nat)
    (h : ab_J x 4 [some (ab_O 0), some (ab_I 0), some (ab_I 0)] [] [w0] kc ks) :
    ab_J x 0 [some (ab_O 0), none, none] [] [w0] kc ks := ab_go hx kX5_weighted.2 9 [(4, [true, true, true])] 0 h
set_option maxRecDepth 100000 in
theorem vX5_weighted_4 {x : ab_Cx} {d mc ms : Nat} {Post : Option ab_V → List ab_Ob → Prop} (hx : ab_At x mX5_weighted d mc ms Post) (l1 l2 : Int) (w0 : ab_Ob) (kc ks : Nat)
    (h : ((6 ≤ l2 → Post (some (ab_I l1)) [w0]) ∧ (¬ 6 ≤ l2 → ((0 ≤ l2 ∧ l2 < (w0.2 6).1) ∧ ((((w0.2 6).2 l2) ≤ 0 → ((-2147483648 ≤ l1 + 0 ∧ l1 + 0 ≤ 2147483647) ∧ ((-2147483648 ≤ l2 + 1 ∧ l2 + 1 ≤ 2147483647) ∧ ab_J x 4 [some (ab_O 0), some (ab_I (l1 + 0)), some (ab_I (l2 + 1))] [] [w0] kc ks))) ∧ (¬ ((w0.2 6).2 l2) ≤ 0 → ((-2147483648 ≤ l1 + 1 ∧ l1 + 1 ≤ 2147483647) ∧ ((-2147483648 ≤ l2 + 1 ∧ l2 + 1 ≤ 2147483647) ∧ ab_J x 4 [some (ab_O 0), some (ab_I (l1 + 1)), some (ab_I (l2 + 1))] [] [w0] kc ks)))))))) :
    ab_J x 4 [some (ab_O 0), some (ab_I l1), some (ab_I l2)] [] [w0] kc ks := ab_go hx kX5_weighted.2 20 [(4, [true, true, true])] 4 h
def mX5_areTwins : ab_M := ((yX5_areTwins, cX5_areTwins, 6, (some .boolean)), ([5], [(0, 0)], [false], false, false, 0), (false, 5, 3))
def rX5_areTwins : List ab_R := [(0, .iload_n 1, 1, 0, 0, 0, [], none),
  (1, .iload_n 2, 1, 0, 0, 0, [], none),
  (2, .if_icmp .ne 5, 3, 0, 0, 0, [7], none),
  (5, .iconst 1, 1, 0, 0, 0, [], none),
  (6, .ireturn, 1, 0, 0, 0, [], none),
  (7, .iload_n 1, 1, 0, 0, 0, [], none),
  (8, .iload_n 2, 1, 0, 0, 0, [], none),
  (9, .invokestatic 70, 3, 0, 0, 10, [], none),
  (12, .iload_n 3, 1, 0, 0, 0, [], none),
  (13, .iadd, 1, 0, 0, 0, [], none),
  (14, .aload_n 0, 1, 0, 0, 0, [], none),
  (15, .getfield 21, 3, 5, 3, 0, [], none),
  (18, .if_icmp .lt 5, 3, 0, 0, 0, [23], none),
  (21, .iconst 0, 1, 0, 0, 0, [], none),
  (22, .ireturn, 1, 0, 0, 0, [], none),
  (23, .aload_n 0, 1, 0, 0, 0, [], none),
  (24, .getfield 24, 3, 5, 4, 0, [], none),
  (27, .iload_n 2, 1, 0, 0, 0, [], none),
  (28, .iaload, 1, 0, 0, 0, [], none),
  (29, .aload_n 0, 1, 0, 0, 0, [], none),
  (30, .getfield 24, 3, 5, 4, 0, [], none),
  (33, .iload_n 1, 1, 0, 0, 0, [], none),
  (34, .iaload, 1, 0, 0, 0, [], none),
  (35, .isub, 1, 0, 0, 0, [], none),
  (36, .istore 4, 2, 0, 0, 0, [], none),
  (38, .iconst 0, 1, 0, 0, 0, [], none),
  (39, .istore 5, 2, 0, 0, 0, [], none),
  (41, .iload 5, 2, 0, 0, 0, [], none),
  (43, .iload_n 3, 1, 0, 0, 0, [], none),
  (44, .if_icmp .ge 98, 3, 0, 0, 0, [142], none),
  (47, .aload_n 0, 1, 0, 0, 0, [], none),
  (48, .getfield 24, 3, 5, 4, 0, [], none),
  (51, .iload_n 2, 1, 0, 0, 0, [], none),
  (52, .iload 5, 2, 0, 0, 0, [], none),
  (54, .iadd, 1, 0, 0, 0, [], none),
  (55, .iaload, 1, 0, 0, 0, [], none),
  (56, .aload_n 0, 1, 0, 0, 0, [], none),
  (57, .getfield 24, 3, 5, 4, 0, [], none),
  (60, .iload_n 1, 1, 0, 0, 0, [], none),
  (61, .iload 5, 2, 0, 0, 0, [], none),
  (63, .iadd, 1, 0, 0, 0, [], none),
  (64, .iaload, 1, 0, 0, 0, [], none),
  (65, .isub, 1, 0, 0, 0, [], none),
  (66, .iload 4, 2, 0, 0, 0, [], none),
  (68, .if_icmp .ne 66, 3, 0, 0, 0, [134], none),
  (71, .aload_n 0, 1, 0, 0, 0, [], none),
  (72, .getfield 28, 3, 5, 5, 0, [], none),
  (75, .iload_n 2, 1, 0, 0, 0, [], none),
  (76, .iload 5, 2, 0, 0, 0, [], none),
  (78, .iadd, 1, 0, 0, 0, [], none),
  (79, .iaload, 1, 0, 0, 0, [], none),
  (80, .aload_n 0, 1, 0, 0, 0, [], none),
  (81, .getfield 28, 3, 5, 5, 0, [], none),
  (84, .iload_n 1, 1, 0, 0, 0, [], none),
  (85, .iload 5, 2, 0, 0, 0, [], none),
  (87, .iadd, 1, 0, 0, 0, [], none),
  (88, .iaload, 1, 0, 0, 0, [], none),
  (89, .if_icmp .ne 45, 3, 0, 0, 0, [134], none),
  (92, .aload_n 0, 1, 0, 0, 0, [], none),
  (93, .getfield 37, 3, 5, 8, 0, [], none),
  (96, .iload_n 2, 1, 0, 0, 0, [], none),
  (97, .iload 5, 2, 0, 0, 0, [], none),
  (99, .iadd, 1, 0, 0, 0, [], none),
  (100, .iaload, 1, 0, 0, 0, [], none),
  (101, .aload_n 0, 1, 0, 0, 0, [], none),
  (102, .getfield 37, 3, 5, 8, 0, [], none),
  (105, .iload_n 1, 1, 0, 0, 0, [], none),
  (106, .iload 5, 2, 0, 0, 0, [], none),
  (108, .iadd, 1, 0, 0, 0, [], none),
  (109, .iaload, 1, 0, 0, 0, [], none),
  (110, .if_icmp .ne 24, 3, 0, 0, 0, [134], none),
  (113, .aload_n 0, 1, 0, 0, 0, [], none),
  (114, .getfield 40, 3, 5, 9, 0, [], none),
  (117, .iload_n 2, 1, 0, 0, 0, [], none),
  (118, .iload 5, 2, 0, 0, 0, [], none),
  (120, .iadd, 1, 0, 0, 0, [], none),
  (121, .iaload, 1, 0, 0, 0, [], none),
  (122, .aload_n 0, 1, 0, 0, 0, [], none),
  (123, .getfield 40, 3, 5, 9, 0, [], none),
  (126, .iload_n 1, 1, 0, 0, 0, [], none),
  (127, .iload 5, 2, 0, 0, 0, [], none),
  (129, .iadd, 1, 0, 0, 0, [], none),
  (130, .iaload, 1, 0, 0, 0, [], none),
  (131, .if_icmp .eq 5, 3, 0, 0, 0, [136], none),
  (134, .iconst 0, 1, 0, 0, 0, [], none),
  (135, .ireturn, 1, 0, 0, 0, [], none),
  (136, .iinc 5 1, 3, 0, 0, 0, [], none),
  (139, .goto (-98), 3, 0, 0, 0, [41], none),
  (142, .iconst 1, 1, 0, 0, 0, [], none),
  (143, .ireturn, 1, 0, 0, 0, [], none)]
set_option maxRecDepth 100000 in
theorem kX5_areTwins : ab_def_ok mX5_areTwins rX5_areTwins := ⟨ab_mok_of 1003 101 1001 1002 (by decide +kernel), [0, 0, 0, 0, 0, 0, 0, 1004, 0, 0, 0, 147, 0, 0, 0, 0, 152, 0, 0, 0, 152, 0, 0, 0, 0, 0, 0, 0, 0, 0, 0, 152, 0, 0, 0, 0, 0, 152, 0, 0, 0, 0, 0, 0, 0, 0, 155, 0, 0, 0, 0, 0, 155, 0, 0, 0, 0, 0, 0, 164, 0, 0, 0, 0, 0, 164, 0, 0, 0, 0, 0, 0, 166, 0, 0, 0, 0, 0, 166, 0, 0, 0, 0, 0, 0, 0, 0, 0, 0, 0], by decide +kernel⟩
set_option maxRecDepth 100000 in
theorem vX5_areTwins_0 {x : ab_Cx} {d mc ms : Nat} {Post : Option ab_V → List ab_Ob → Prop} (hx : ab_At x mX5_areTwins d mc ms Post) (a1 a2 a3 : Int) (w0 : ab_Ob) (kc ks : Nat)
    (h : ((¬ a1 = a2 → ((-2147483648 ≤ (if a1 < a2 then a2 else a1) + a3 ∧ (if a1 < a2 then a2 else a1) + a3 ≤ 2147483647) ∧ ((((if a1 < a2 then a2 else a1) + a3) < (w0.1 3) → ((0 ≤ a2 ∧ a2 < (w0.2 4).1) ∧ ((0 ≤ a1 ∧ a1 < (w0.2 4).1) ∧ ((-2147483648 ≤ ((w0.2 4).2 a2) - ((w0.2 4).2 a1) ∧ ((w0.2 4).2 a2) - ((w0.2 4).2 a1) ≤ 2147483647) ∧ ab_J x 41 [some (ab_O 0), some (ab_I a1), some (ab_I a2), some (ab_I a3), some (ab_I (((w0.2 4).2 a2) - ((w0.2 4).2 a1))), some (ab_I 0)] [] [w0] kc ks)))) ∧ (¬ ((if a1 < a2 then a2 else a1) + a3) < (w0.1 3) → (((0 : Int) = 0 ∨ (0 : Int) = 1) ∧ Post (some (ab_I 0)) [w0]))))) ∧ (a1 = a2 → (((1 : Int) = 0 ∨ (1 : Int) = 1) ∧ Post (some (ab_I 1)) [w0])))) :
    ab_J x 0 [some (ab_O 0), some (ab_I a1), some (ab_I a2), some (ab_I a3), none, none] [] [w0] kc ks := ab_go hx kX5_areTwins.2 28 [(41, [true, true, true, true, true, true])] 0 h
set_option maxRecDepth 100000 in
theorem vX5_areTwins_41 {x : ab_Cx} {d mc ms : Nat} {Post : Option ab_V → List ab_Ob → Prop} (hx : ab_At x mX5_areTwins d mc ms Post) (l1 l2 l3 l4 l5 : Int) (w0 : ab_Ob) (kc ks : Nat)
    (h : ((l3 ≤ l5 → (((1 : Int) = 0 ∨ (1 : Int) = 1) ∧ Post (some (ab_I 1)) [w0])) ∧ (¬ l3 ≤ l5 → ((-2147483648 ≤ l2 + l5 ∧ l2 + l5 ≤ 2147483647) ∧ ((0 ≤ (l2 + l5) ∧ (l2 + l5) < (w0.2 4).1) ∧ ((-2147483648 ≤ l1 + l5 ∧ l1 + l5 ≤ 2147483647) ∧ ((0 ≤ (l1 + l5) ∧ (l1 + l5) < (w0.2 4).1) ∧ ((-2147483648 ≤ ((w0.2 4).2 (l2 + l5)) - ((w0.2 4).2 (l1 + l5)) ∧ ((w0.2 4).2 (l2 + l5)) - ((w0.2 4).2 (l1 + l5)) ≤ 2147483647) ∧ ((¬ (((w0.2 4).2 (l2 + l5)) - ((w0.2 4).2 (l1 + l5))) = l4 → (((0 : Int) = 0 ∨ (0 : Int) = 1) ∧ Post (some (ab_I 0)) [w0])) ∧ ((((w0.2 4).2 (l2 + l5)) - ((w0.2 4).2 (l1 + l5))) = l4 → ((-2147483648 ≤ l2 + l5 ∧ l2 + l5 ≤ 2147483647) ∧ ((0 ≤ (l2 + l5) ∧ (l2 + l5) < (w0.2 5).1) ∧ ((-2147483648 ≤ l1 + l5 ∧ l1 + l5 ≤ 2147483647) ∧ ((0 ≤ (l1 + l5) ∧ (l1 + l5) < (w0.2 5).1) ∧ ((¬ ((w0.2 5).2 (l2 + l5)) = ((w0.2 5).2 (l1 + l5)) → (((0 : Int) = 0 ∨ (0 : Int) = 1) ∧ Post (some (ab_I 0)) [w0])) ∧ (((w0.2 5).2 (l2 + l5)) = ((w0.2 5).2 (l1 + l5)) → ((-2147483648 ≤ l2 + l5 ∧ l2 + l5 ≤ 2147483647) ∧ ((0 ≤ (l2 + l5) ∧ (l2 + l5) < (w0.2 8).1) ∧ ((-2147483648 ≤ l1 + l5 ∧ l1 + l5 ≤ 2147483647) ∧ ((0 ≤ (l1 + l5) ∧ (l1 + l5) < (w0.2 8).1) ∧ ((¬ ((w0.2 8).2 (l2 + l5)) = ((w0.2 8).2 (l1 + l5)) → (((0 : Int) = 0 ∨ (0 : Int) = 1) ∧ Post (some (ab_I 0)) [w0])) ∧ (((w0.2 8).2 (l2 + l5)) = ((w0.2 8).2 (l1 + l5)) → ((-2147483648 ≤ l2 + l5 ∧ l2 + l5 ≤ 2147483647) ∧ ((0 ≤ (l2 + l5) ∧ (l2 + l5) < (w0.2 9).1) ∧ ((-2147483648 ≤ l1 + l5 ∧ l1 + l5 ≤ 2147483647) ∧ ((0 ≤ (l1 + l5) ∧ (l1 + l5) < (w0.2 9).1) ∧ ((((w0.2 9).2 (l2 + l5)) = ((w0.2 9).2 (l1 + l5)) → ((-2147483648 ≤ l5 + 1 ∧ l5 + 1 ≤ 2147483647) ∧ ab_J x 41 [some (ab_O 0), some (ab_I l1), some (ab_I l2), some (ab_I l3), some (ab_I l4), some (ab_I (l5 + 1))] [] [w0] kc ks)) ∧ (¬ ((w0.2 9).2 (l2 + l5)) = ((w0.2 9).2 (l1 + l5)) → (((0 : Int) = 0 ∨ (0 : Int) = 1) ∧ Post (some (ab_I 0)) [w0]))))))))))))))))))))))))))))) :
    ab_J x 41 [some (ab_O 0), some (ab_I l1), some (ab_I l2), some (ab_I l3), some (ab_I l4), some (ab_I l5)] [] [w0] kc ks := ab_go hx kX5_areTwins.2 64 [(41, [true, true, true, true, true, true])] 41 h
def mX5_nextTwin : ab_M := ((yX5_nextTwin, cX5_nextTwin, 4, (some .int)), ([5], [(0, 0)], [false], false, false, 0), (false, 5, 2))
def rX5_nextTwin : List ab_R := [(0, .iload_n 1, 1, 0, 0, 0, [], none),
  (1, .iload_n 2, 1, 0, 0, 0, [], none),
  (2, .iadd, 1, 0, 0, 0, [], none),
  (3, .istore_n 3, 1, 0, 0, 0, [], none),
  (4, .iload_n 3, 1, 0, 0, 0, [], none),
  (5, .iload_n 2, 1, 0, 0, 0, [], none),
  (6, .iadd, 1, 0, 0, 0, [], none),
  (7, .aload_n 0, 1, 0, 0, 0, [], none),
  (8, .getfield 21, 3, 5, 3, 0, [], none),
  (11, .if_icmp .gt 21, 3, 0, 0, 0, [32], none),
  (14, .aload_n 0, 1, 0, 0, 0, [], none),
  (15, .iload_n 1, 1, 0, 0, 0, [], none),
  (16, .iload_n 3, 1, 0, 0, 0, [], none),
  (17, .iload_n 2, 1, 0, 0, 0, [], none),
  (18, .invokevirtual 73, 3, 0, 0, 0, [], some mX5_areTwins),
  (21, .ifCond .eq 5, 3, 0, 0, 0, [26], none),
  (24, .iload_n 3, 1, 0, 0, 0, [], none),
  (25, .ireturn, 1, 0, 0, 0, [], none),
  (26, .iinc 3 1, 3, 0, 0, 0, [], none),
  (29, .goto (-25), 3, 0, 0, 0, [4], none),
  (32, .iconst (-1), 1, 0, 0, 0, [], none),
  (33, .ireturn, 1, 0, 0, 0, [], none)]
set_option maxRecDepth 100000 in
theorem kX5_nextTwin : ab_def_ok mX5_nextTwin rX5_nextTwin := ⟨ab_mok_of 1012 101 1010 1011 (by decide +kernel), [0, 0, 0, 0, 0, 0, 0, 0, 147, 0, 0, 0, 0, 0, 1013, 0, 0, 0, 0, 0, 0, 0], by decide +kernel⟩
set_option maxRecDepth 100000 in
theorem vX5_nextTwin_0 {x : ab_Cx} {d mc ms : Nat} {Post : Option ab_V → List ab_Ob → Prop} (hx : ab_At x mX5_nextTwin d mc ms Post) (a1 a2 : Int) (w0 : ab_Ob) (kc ks : Nat)
    (h : ((-2147483648 ≤ a1 + a2 ∧ a1 + a2 ≤ 2147483647) ∧ ab_J x 4 [some (ab_O 0), some (ab_I a1), some (ab_I a2), some (ab_I (a1 + a2))] [] [w0] kc ks)) :
    ab_J x 0 [some (ab_O 0), some (ab_I a1), some (ab_I a2), none] [] [w0] kc ks := ab_go hx kX5_nextTwin.2 9 [(4, [true, true, true, true])] 0 h
set_option maxRecDepth 100000 in
theorem vX5_nextTwin_4 {x : ab_Cx} {d mc ms : Nat} {Post : Option ab_V → List ab_Ob → Prop} (hx : ab_At x mX5_nextTwin d mc ms Post) (l1 l2 l3 : Int) (w0 : ab_Ob) (kc ks : Nat)
    (h : ((-2147483648 ≤ l3 + l2 ∧ l3 + l2 ≤ 2147483647) ∧ (((w0.1 3) < (l3 + l2) → Post (some (ab_I (-1))) [w0]) ∧ (¬ (w0.1 3) < (l3 + l2) → (∃ Q1 : Option ab_V → List ab_Ob → Prop, ab_Ct d 0 0 mX5_areTwins [ab_O 0, ab_I l1, ab_I l3, ab_I l2] [w0] Q1 ∧ (∀ r2 : Int, Q1 (some (ab_I r2)) [w0] → ((r2 = 0 → ((-2147483648 ≤ l3 + 1 ∧ l3 + 1 ≤ 2147483647) ∧ ab_J x 4 [some (ab_O 0), some (ab_I l1), some (ab_I l2), some (ab_I (l3 + 1))] [] [w0] kc ks)) ∧ (¬ r2 = 0 → Post (some (ab_I l3)) [w0])))))))) :
    ab_J x 4 [some (ab_O 0), some (ab_I l1), some (ab_I l2), some (ab_I l3)] [] [w0] kc ks := ab_go hx kX5_nextTwin.2 19 [(4, [true, true, true, true])] 4 h
def mX5_canMove : ab_M := ((yX5_canMove, cX5_canMove, 3, (some .boolean)), ([5], [(0, 0)], [false], false, false, 0), (false, 5, 1))
def rX5_canMove : List ab_R := [(0, .iconst 0, 1, 0, 0, 0, [], none),
  (1, .istore_n 2, 1, 0, 0, 0, [], none),
  (2, .iload_n 2, 1, 0, 0, 0, [], none),
  (3, .aload_n 0, 1, 0, 0, 0, [], none),
  (4, .getfield 21, 3, 5, 3, 0, [], none),
  (7, .if_icmp .ge 35, 3, 0, 0, 0, [42], none),
  (10, .aload_n 0, 1, 0, 0, 0, [], none),
  (11, .getfield 24, 3, 5, 4, 0, [], none),
  (14, .iload_n 2, 1, 0, 0, 0, [], none),
  (15, .iaload, 1, 0, 0, 0, [], none),
  (16, .iload_n 1, 1, 0, 0, 0, [], none),
  (17, .iadd, 1, 0, 0, 0, [], none),
  (18, .ifCond .lt 16, 3, 0, 0, 0, [34], none),
  (21, .aload_n 0, 1, 0, 0, 0, [], none),
  (22, .getfield 24, 3, 5, 4, 0, [], none),
  (25, .iload_n 2, 1, 0, 0, 0, [], none),
  (26, .iaload, 1, 0, 0, 0, [], none),
  (27, .iload_n 1, 1, 0, 0, 0, [], none),
  (28, .iadd, 1, 0, 0, 0, [], none),
  (29, .bipush 99, 2, 0, 0, 0, [], none),
  (31, .if_icmp .le 5, 3, 0, 0, 0, [36], none),
  (34, .iconst 0, 1, 0, 0, 0, [], none),
  (35, .ireturn, 1, 0, 0, 0, [], none),
  (36, .iinc 2 1, 3, 0, 0, 0, [], none),
  (39, .goto (-37), 3, 0, 0, 0, [2], none),
  (42, .iconst 1, 1, 0, 0, 0, [], none),
  (43, .ireturn, 1, 0, 0, 0, [], none)]
set_option maxRecDepth 100000 in
theorem kX5_canMove : ab_def_ok mX5_canMove rX5_canMove := ⟨ab_mok_of 1104 101 1102 1103 (by decide +kernel), [0, 0, 0, 0, 147, 0, 0, 152, 0, 0, 0, 0, 0, 0, 152, 0, 0, 0, 0, 0, 0, 0, 0, 0, 0, 0, 0], by decide +kernel⟩
set_option maxRecDepth 100000 in
theorem vX5_canMove_0 {x : ab_Cx} {d mc ms : Nat} {Post : Option ab_V → List ab_Ob → Prop} (hx : ab_At x mX5_canMove d mc ms Post) (a1 : Int) (w0 : ab_Ob) (kc ks : Nat)
    (h : ab_J x 2 [some (ab_O 0), some (ab_I a1), some (ab_I 0)] [] [w0] kc ks) :
    ab_J x 0 [some (ab_O 0), some (ab_I a1), none] [] [w0] kc ks := ab_go hx kX5_canMove.2 7 [(2, [true, true, true])] 0 h
set_option maxRecDepth 100000 in
theorem vX5_canMove_2 {x : ab_Cx} {d mc ms : Nat} {Post : Option ab_V → List ab_Ob → Prop} (hx : ab_At x mX5_canMove d mc ms Post) (l1 l2 : Int) (w0 : ab_Ob) (kc ks : Nat)
    (h : (((w0.1 3) ≤ l2 → (((1 : Int) = 0 ∨ (1 : Int) = 1) ∧ Post (some (ab_I 1)) [w0])) ∧ (¬ (w0.1 3) ≤ l2 → ((0 ≤ l2 ∧ l2 < (w0.2 4).1) ∧ ((-2147483648 ≤ ((w0.2 4).2 l2) + l1 ∧ ((w0.2 4).2 l2) + l1 ≤ 2147483647) ∧ (((((w0.2 4).2 l2) + l1) < 0 → (((0 : Int) = 0 ∨ (0 : Int) = 1) ∧ Post (some (ab_I 0)) [w0])) ∧ (¬ (((w0.2 4).2 l2) + l1) < 0 → ((0 ≤ l2 ∧ l2 < (w0.2 4).1) ∧ ((-2147483648 ≤ ((w0.2 4).2 l2) + l1 ∧ ((w0.2 4).2 l2) + l1 ≤ 2147483647) ∧ (((((w0.2 4).2 l2) + l1) ≤ 99 → ((-2147483648 ≤ l2 + 1 ∧ l2 + 1 ≤ 2147483647) ∧ ab_J x 2 [some (ab_O 0), some (ab_I l1), some (ab_I (l2 + 1))] [] [w0] kc ks)) ∧ (¬ (((w0.2 4).2 l2) + l1) ≤ 99 → (((0 : Int) = 0 ∨ (0 : Int) = 1) ∧ Post (some (ab_I 0)) [w0])))))))))))) :
    ab_J x 2 [some (ab_O 0), some (ab_I l1), some (ab_I l2)] [] [w0] kc ks := ab_go hx kX5_canMove.2 26 [(2, [true, true, true])] 2 h
def mX5_moveAll : ab_M := ((yX5_moveAll, cX5_moveAll, 3, none), ([5], [(0, 0)], [true], false, false, 0), (false, 5, 1))
def rX5_moveAll : List ab_R := [(0, .iconst 0, 1, 0, 0, 0, [], none),
  (1, .istore_n 2, 1, 0, 0, 0, [], none),
  (2, .iload_n 2, 1, 0, 0, 0, [], none),
  (3, .aload_n 0, 1, 0, 0, 0, [], none),
  (4, .getfield 21, 3, 5, 3, 0, [], none),
  (7, .if_icmp .ge 19, 3, 0, 0, 0, [26], none),
  (10, .aload_n 0, 1, 0, 0, 0, [], none),
  (11, .getfield 24, 3, 5, 4, 0, [], none),
  (14, .iload_n 2, 1, 0, 0, 0, [], none),
  (15, .dup2, 1, 0, 0, 0, [], none),
  (16, .iaload, 1, 0, 0, 0, [], none),
  (17, .iload_n 1, 1, 0, 0, 0, [], none),
  (18, .iadd, 1, 0, 0, 0, [], none),
  (19, .iastore, 1, 0, 0, 0, [], none),
  (20, .iinc 2 1, 3, 0, 0, 0, [], none),
  (23, .goto (-21), 3, 0, 0, 0, [2], none),
  (26, .return_, 1, 0, 0, 0, [], none)]
set_option maxRecDepth 100000 in
theorem kX5_moveAll : ab_def_ok mX5_moveAll rX5_moveAll := ⟨ab_mok_of 1083 101 1081 1082 (by decide +kernel), [0, 0, 0, 0, 147, 0, 0, 152, 0, 0, 0, 0, 0, 0, 0, 0, 0], by decide +kernel⟩
set_option maxRecDepth 100000 in
theorem vX5_moveAll_0 {x : ab_Cx} {d mc ms : Nat} {Post : Option ab_V → List ab_Ob → Prop} (hx : ab_At x mX5_moveAll d mc ms Post) (a1 : Int) (w0 : ab_Ob) (kc ks : Nat)
    (h : ab_J x 2 [some (ab_O 0), some (ab_I a1), some (ab_I 0)] [] [w0] kc ks) :
    ab_J x 0 [some (ab_O 0), some (ab_I a1), none] [] [w0] kc ks := ab_go hx kX5_moveAll.2 7 [(2, [true, true, true])] 0 h
set_option maxRecDepth 100000 in
theorem vX5_moveAll_2 {x : ab_Cx} {d mc ms : Nat} {Post : Option ab_V → List ab_Ob → Prop} (hx : ab_At x mX5_moveAll d mc ms Post) (l1 l2 : Int) (w0 : ab_Ob) (kc ks : Nat)
    (h : (((w0.1 3) ≤ l2 → Post none [w0]) ∧ (¬ (w0.1 3) ≤ l2 → ((0 ≤ l2 ∧ l2 < (w0.2 4).1) ∧ ((-2147483648 ≤ ((w0.2 4).2 l2) + l1 ∧ ((w0.2 4).2 l2) + l1 ≤ 2147483647) ∧ ((0 ≤ l2 ∧ l2 < (w0.2 4).1) ∧ ((-2147483648 ≤ l2 + 1 ∧ l2 + 1 ≤ 2147483647) ∧ ab_J x 2 [some (ab_O 0), some (ab_I l1), some (ab_I (l2 + 1))] [] [(ab_pa w0 4 l2 (((w0.2 4).2 l2) + l1))] kc ks))))))) :
    ab_J x 2 [some (ab_O 0), some (ab_I l1), some (ab_I l2)] [] [w0] kc ks := ab_go hx kX5_moveAll.2 19 [(2, [true, true, true])] 2 h
