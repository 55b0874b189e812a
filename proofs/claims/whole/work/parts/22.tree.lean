def mX7_open : ab_M := ((yX7_open, cX7_open, 6, none), ([7], [(0, 0)], [true], false, false, 0), (false, 7, 5))
def rX7_open : List ab_R := [(0, .aload_n 0, 1, 0, 0, 0, [], none),
  (1, .getfield 21, 3, 7, 3, 0, [], none),
  (4, .iload_n 1, 1, 0, 0, 0, [], none),
  (5, .iload_n 2, 1, 0, 0, 0, [], none),
  (6, .iastore, 1, 0, 0, 0, [], none),
  (7, .aload_n 0, 1, 0, 0, 0, [], none),
  (8, .getfield 25, 3, 7, 4, 0, [], none),
  (11, .iload_n 1, 1, 0, 0, 0, [], none),
  (12, .iload_n 3, 1, 0, 0, 0, [], none),
  (13, .iastore, 1, 0, 0, 0, [], none),
  (14, .aload_n 0, 1, 0, 0, 0, [], none),
  (15, .getfield 31, 3, 7, 6, 0, [], none),
  (18, .iload_n 1, 1, 0, 0, 0, [], none),
  (19, .iload 4, 2, 0, 0, 0, [], none),
  (21, .iastore, 1, 0, 0, 0, [], none),
  (22, .aload_n 0, 1, 0, 0, 0, [], none),
  (23, .getfield 37, 3, 7, 8, 0, [], none),
  (26, .iload_n 1, 1, 0, 0, 0, [], none),
  (27, .iload 5, 2, 0, 0, 0, [], none),
  (29, .iastore, 1, 0, 0, 0, [], none),
  (30, .return_, 1, 0, 0, 0, [], none)]
set_option maxRecDepth 100000 in
theorem kX7_open : ab_def_ok mX7_open rX7_open := ⟨ab_mok_of 699 105 698 24 (by decide +kernel), [0, 296, 0, 0, 0, 0, 299, 0, 0, 0, 0, 304, 0, 0, 0, 0, 309, 0, 0, 0, 0], by decide +kernel⟩
set_option maxRecDepth 100000 in
theorem vX7_open_0 {x : ab_Cx} {d mc ms : Nat} {Post : Option ab_V → List ab_Ob → Prop} (hx : ab_At x mX7_open d mc ms Post) (a1 a2 a3 a4 a5 : Int) (w0 : ab_Ob) (kc ks : Nat)
    (h : ((0 ≤ a1 ∧ a1 < (w0.2 3).1) ∧ ((0 ≤ a1 ∧ a1 < (w0.2 4).1) ∧ ((0 ≤ a1 ∧ a1 < (w0.2 6).1) ∧ ((0 ≤ a1 ∧ a1 < (w0.2 8).1) ∧ Post none [(ab_pa (ab_pa (ab_pa (ab_pa w0 3 a1 a2) 4 a1 a3) 6 a1 a4) 8 a1 a5)]))))) :
    ab_J x 0 [some (ab_O 0), some (ab_I a1), some (ab_I a2), some (ab_I a3), some (ab_I a4), some (ab_I a5)] [] [w0] kc ks := ab_go hx kX7_open.2 25 [] 0 h
def mX7_divide : ab_M := ((yX7_divide, cX7_divide, 9, none), ([7, 1], [(0, 0), (1, 0)], [true, false], false, false, 0), (false, 7, 2))
def rX7_divide : List ab_R := [(0, .aload_n 0, 1, 0, 0, 0, [], none),
  (1, .getfield 21, 3, 7, 3, 0, [], none),
  (4, .iload_n 2, 1, 0, 0, 0, [], none),
  (5, .iaload, 1, 0, 0, 0, [], none),
  (6, .istore_n 3, 1, 0, 0, 0, [], none),
  (7, .aload_n 0, 1, 0, 0, 0, [], none),
  (8, .getfield 25, 3, 7, 4, 0, [], none),
  (11, .iload_n 2, 1, 0, 0, 0, [], none),
  (12, .iaload, 1, 0, 0, 0, [], none),
  (13, .istore 4, 2, 0, 0, 0, [], none),
  (15, .aload_n 0, 1, 0, 0, 0, [], none),
  (16, .getfield 31, 3, 7, 6, 0, [], none),
  (19, .iload_n 2, 1, 0, 0, 0, [], none),
  (20, .iaload, 1, 0, 0, 0, [], none),
  (21, .istore 5, 2, 0, 0, 0, [], none),
  (23, .aload_n 1, 1, 0, 0, 0, [], none),
  (24, .iload_n 3, 1, 0, 0, 0, [], none),
  (25, .iload 4, 2, 0, 0, 0, [], none),
  (27, .iload 5, 2, 0, 0, 0, [], none),
  (29, .invokevirtual 57, 3, 0, 0, 0, [], some mX1_bestSplit),
  (32, .istore 6, 2, 0, 0, 0, [], none),
  (34, .iload 5, 2, 0, 0, 0, [], none),
  (36, .iload 6, 2, 0, 0, 0, [], none),
  (38, .if_icmp .gt 7, 3, 0, 0, 0, [45], none),
  (41, .iconst 1, 1, 0, 0, 0, [], none),
  (42, .goto 4, 3, 0, 0, 0, [46], none),
  (45, .iconst 0, 1, 0, 0, 0, [], none),
  (46, .istore 7, 2, 0, 0, 0, [], none),
  (48, .iload 7, 2, 0, 0, 0, [], none),
  (50, .ifCond .eq 18, 3, 0, 0, 0, [68], none),
  (53, .aload_n 1, 1, 0, 0, 0, [], none),
  (54, .iload 6, 2, 0, 0, 0, [], none),
  (56, .iconst 1, 1, 0, 0, 0, [], none),
  (57, .iadd, 1, 0, 0, 0, [], none),
  (58, .iload 4, 2, 0, 0, 0, [], none),
  (60, .iload 5, 2, 0, 0, 0, [], none),
  (62, .invokevirtual 61, 3, 0, 0, 0, [], some mX1_bestUnder),
  (65, .goto 12, 3, 0, 0, 0, [77], none),
  (68, .aload_n 1, 1, 0, 0, 0, [], none),
  (69, .iload_n 3, 1, 0, 0, 0, [], none),
  (70, .iload 6, 2, 0, 0, 0, [], none),
  (72, .iload 5, 2, 0, 0, 0, [], none),
  (74, .invokevirtual 61, 3, 0, 0, 0, [], some mX1_bestUnder),
  (77, .istore 8, 2, 0, 0, 0, [], none),
  (79, .aload_n 0, 1, 0, 0, 0, [], none),
  (80, .getfield 28, 3, 7, 5, 0, [], none),
  (83, .iload_n 2, 1, 0, 0, 0, [], none),
  (84, .iload 6, 2, 0, 0, 0, [], none),
  (86, .iastore, 1, 0, 0, 0, [], none),
  (87, .aload_n 0, 1, 0, 0, 0, [], none),
  (88, .getfield 34, 3, 7, 7, 0, [], none),
  (91, .iload_n 2, 1, 0, 0, 0, [], none),
  (92, .iload 8, 2, 0, 0, 0, [], none),
  (94, .iastore, 1, 0, 0, 0, [], none),
  (95, .aload_n 0, 1, 0, 0, 0, [], none),
  (96, .getfield 40, 3, 7, 9, 0, [], none),
  (99, .iload 8, 2, 0, 0, 0, [], none),
  (101, .iload_n 2, 1, 0, 0, 0, [], none),
  (102, .iastore, 1, 0, 0, 0, [], none),
  (103, .iload_n 3, 1, 0, 0, 0, [], none),
  (104, .iload 6, 2, 0, 0, 0, [], none),
  (106, .if_icmp .ge 33, 3, 0, 0, 0, [139], none),
  (109, .aload_n 0, 1, 0, 0, 0, [], none),
  (110, .iload_n 2, 1, 0, 0, 0, [], none),
  (111, .iconst 1, 1, 0, 0, 0, [], none),
  (112, .iadd, 1, 0, 0, 0, [], none),
  (113, .iload_n 3, 1, 0, 0, 0, [], none),
  (114, .iload 6, 2, 0, 0, 0, [], none),
  (116, .iload 7, 2, 0, 0, 0, [], none),
  (118, .ifCond .eq 8, 3, 0, 0, 0, [126], none),
  (121, .iload 5, 2, 0, 0, 0, [], none),
  (123, .goto 5, 3, 0, 0, 0, [128], none),
  (126, .iload 8, 2, 0, 0, 0, [], none),
  (128, .aload_n 0, 1, 0, 0, 0, [], none),
  (129, .getfield 37, 3, 7, 8, 0, [], none),
  (132, .iload_n 2, 1, 0, 0, 0, [], none),
  (133, .iaload, 1, 0, 0, 0, [], none),
  (134, .iconst 1, 1, 0, 0, 0, [], none),
  (135, .iadd, 1, 0, 0, 0, [], none),
  (136, .invokevirtual 49, 3, 0, 0, 0, [], some mX7_open),
  (139, .iload 6, 2, 0, 0, 0, [], none),
  (141, .iconst 1, 1, 0, 0, 0, [], none),
  (142, .iadd, 1, 0, 0, 0, [], none),
  (143, .iload 4, 2, 0, 0, 0, [], none),
  (145, .if_icmp .ge 41, 3, 0, 0, 0, [186], none),
  (148, .aload_n 0, 1, 0, 0, 0, [], none),
  (149, .iload_n 2, 1, 0, 0, 0, [], none),
  (150, .iconst 1, 1, 0, 0, 0, [], none),
  (151, .iadd, 1, 0, 0, 0, [], none),
  (152, .iload 6, 2, 0, 0, 0, [], none),
  (154, .iadd, 1, 0, 0, 0, [], none),
  (155, .iload_n 3, 1, 0, 0, 0, [], none),
  (156, .isub, 1, 0, 0, 0, [], none),
  (157, .iload 6, 2, 0, 0, 0, [], none),
  (159, .iconst 1, 1, 0, 0, 0, [], none),
  (160, .iadd, 1, 0, 0, 0, [], none),
  (161, .iload 4, 2, 0, 0, 0, [], none),
  (163, .iload 7, 2, 0, 0, 0, [], none),
  (165, .ifCond .eq 8, 3, 0, 0, 0, [173], none),
  (168, .iload 8, 2, 0, 0, 0, [], none),
  (170, .goto 5, 3, 0, 0, 0, [175], none),
  (173, .iload 5, 2, 0, 0, 0, [], none),
  (175, .aload_n 0, 1, 0, 0, 0, [], none),
  (176, .getfield 37, 3, 7, 8, 0, [], none),
  (179, .iload_n 2, 1, 0, 0, 0, [], none),
  (180, .iaload, 1, 0, 0, 0, [], none),
  (181, .iconst 1, 1, 0, 0, 0, [], none),
  (182, .iadd, 1, 0, 0, 0, [], none),
  (183, .invokevirtual 49, 3, 0, 0, 0, [], some mX7_open),
  (186, .return_, 1, 0, 0, 0, [], none)]
set_option maxRecDepth 100000 in
theorem kX7_divide : ab_def_ok mX7_divide rX7_divide := ⟨ab_mok_of 703 105 702 25 (by decide +kernel), [0, 296, 0, 0, 0, 0, 299, 0, 0, 0, 0, 304, 0, 0, 0, 0, 0, 0, 0, 704, 0, 0, 0, 0, 0, 0, 0, 0, 0, 0, 0, 0, 0, 0, 0, 0, 717, 0, 0, 0, 0, 0, 717, 0, 0, 302, 0, 0, 0, 0, 307, 0, 0, 0, 0, 312, 0, 0, 0, 0, 0, 0, 0, 0, 0, 0, 0, 0, 0, 0, 0, 0, 0, 0, 309, 0, 0, 0, 0, 696, 0, 0, 0, 0, 0, 0, 0, 0, 0, 0, 0, 0, 0, 0, 0, 0, 0, 0, 0, 0, 0, 0, 0, 309, 0, 0, 0, 0, 696, 0], by decide +kernel⟩
set_option maxRecDepth 100000 in
theorem vX7_divide_0 {x : ab_Cx} {d mc ms : Nat} {Post : Option ab_V → List ab_Ob → Prop} (hx : ab_At x mX7_divide d mc ms Post) (a2 : Int) (w0 w1 : ab_Ob) (kc ks : Nat)
    (h : ((0 ≤ a2 ∧ a2 < (w0.2 3).1) ∧ ((0 ≤ a2 ∧ a2 < (w0.2 4).1) ∧ ((0 ≤ a2 ∧ a2 < (w0.2 6).1) ∧ (∃ Q1 : Option ab_V → List ab_Ob → Prop, ab_Ct d 0 0 mX1_bestSplit [ab_O 0, ab_I ((w0.2 3).2 a2), ab_I ((w0.2 4).2 a2), ab_I ((w0.2 6).2 a2)] [w1] Q1 ∧ (∀ r2 : Int, Q1 (some (ab_I r2)) [w1] → ((r2 < ((w0.2 6).2 a2) → ab_J x 46 [some (ab_O 0), some (ab_O 1), some (ab_I a2), some (ab_I ((w0.2 3).2 a2)), some (ab_I ((w0.2 4).2 a2)), some (ab_I ((w0.2 6).2 a2)), some (ab_I r2), none, none] [ab_I 0] [w0, w1] kc ks) ∧ (¬ r2 < ((w0.2 6).2 a2) → ab_J x 46 [some (ab_O 0), some (ab_O 1), some (ab_I a2), some (ab_I ((w0.2 3).2 a2)), some (ab_I ((w0.2 4).2 a2)), some (ab_I ((w0.2 6).2 a2)), some (ab_I r2), none, none] [ab_I 1] [w0, w1] kc ks)))))))) :
    ab_J x 0 [some (ab_O 0), some (ab_O 1), some (ab_I a2), none, none, none, none, none, none] [] [w0, w1] kc ks := ab_go hx kX7_divide.2 31 [(46, [true, true, true, true, true, true, true, false, false]), (77, [true, false, true, true, true, true, true, true, false]), (128, [true, false, true, true, true, true, true, true, true]), (139, [true, false, true, true, true, true, true, true, true]), (175, [true, false, true, false, false, false, false, false, false]), (186, [false, false, false, false, false, false, false, false, false])] 0 h
set_option maxRecDepth 100000 in
theorem vX7_divide_46 {x : ab_Cx} {d mc ms : Nat} {Post : Option ab_V → List ab_Ob → Prop} (hx : ab_At x mX7_divide d mc ms Post) (l2 l3 l4 l5 l6 t0 : Int) (w0 w1 : ab_Ob) (kc ks : Nat)
    (h : ((t0 = 0 → (∃ Q1 : Option ab_V → List ab_Ob → Prop, ab_Ct d 0 0 mX1_bestUnder [ab_O 0, ab_I l3, ab_I l6, ab_I l5] [w1] Q1 ∧ (∀ r2 : Int, Q1 (some (ab_I r2)) [w1] → ab_J x 77 [some (ab_O 0), none, some (ab_I l2), some (ab_I l3), some (ab_I l4), some (ab_I l5), some (ab_I l6), some (ab_I t0), none] [ab_I r2] [w0, w1] kc ks))) ∧ (¬ t0 = 0 → ((-2147483648 ≤ l6 + 1 ∧ l6 + 1 ≤ 2147483647) ∧ (∃ Q3 : Option ab_V → List ab_Ob → Prop, ab_Ct d 0 0 mX1_bestUnder [ab_O 0, ab_I (l6 + 1), ab_I l4, ab_I l5] [w1] Q3 ∧ (∀ r4 : Int, Q3 (some (ab_I r4)) [w1] → ab_J x 77 [some (ab_O 0), none, some (ab_I l2), some (ab_I l3), some (ab_I l4), some (ab_I l5), some (ab_I l6), some (ab_I t0), none] [ab_I r4] [w0, w1] kc ks)))))) :
    ab_J x 46 [some (ab_O 0), some (ab_O 1), some (ab_I l2), some (ab_I l3), some (ab_I l4), some (ab_I l5), some (ab_I l6), none, none] [ab_I t0] [w0, w1] kc ks := ab_go hx kX7_divide.2 16 [(46, [true, true, true, true, true, true, true, false, false]), (77, [true, false, true, true, true, true, true, true, false]), (128, [true, false, true, true, true, true, true, true, true]), (139, [true, false, true, true, true, true, true, true, true]), (175, [true, false, true, false, false, false, false, false, false]), (186, [false, false, false, false, false, false, false, false, false])] 46 h
set_option maxRecDepth 100000 in
theorem vX7_divide_77 {x : ab_Cx} {d mc ms : Nat} {Post : Option ab_V → List ab_Ob → Prop} (hx : ab_At x mX7_divide d mc ms Post) (l2 l3 l4 l5 l6 l7 t0 : Int) (w0 w1 : ab_Ob) (kc ks : Nat)
    (h : ((0 ≤ l2 ∧ l2 < (w0.2 5).1) ∧ ((0 ≤ l2 ∧ l2 < (w0.2 7).1) ∧ ((0 ≤ t0 ∧ t0 < (w0.2 9).1) ∧ ((l6 ≤ l3 → ab_J x 139 [some (ab_O 0), none, some (ab_I l2), some (ab_I l3), some (ab_I l4), some (ab_I l5), some (ab_I l6), some (ab_I l7), some (ab_I t0)] [] [(ab_pa (ab_pa (ab_pa w0 5 l2 l6) 7 l2 t0) 9 t0 l2), w1] kc ks) ∧ (¬ l6 ≤ l3 → ((-2147483648 ≤ l2 + 1 ∧ l2 + 1 ≤ 2147483647) ∧ ((l7 = 0 → ab_J x 128 [some (ab_O 0), none, some (ab_I l2), some (ab_I l3), some (ab_I l4), some (ab_I l5), some (ab_I l6), some (ab_I l7), some (ab_I t0)] [ab_I t0, ab_I l6, ab_I l3, ab_I (l2 + 1), ab_O 0] [(ab_pa (ab_pa (ab_pa w0 5 l2 l6) 7 l2 t0) 9 t0 l2), w1] kc ks) ∧ (¬ l7 = 0 → ab_J x 128 [some (ab_O 0), none, some (ab_I l2), some (ab_I l3), some (ab_I l4), some (ab_I l5), some (ab_I l6), some (ab_I l7), some (ab_I t0)] [ab_I l5, ab_I l6, ab_I l3, ab_I (l2 + 1), ab_O 0] [(ab_pa (ab_pa (ab_pa w0 5 l2 l6) 7 l2 t0) 9 t0 l2), w1] kc ks))))))))) :
    ab_J x 77 [some (ab_O 0), none, some (ab_I l2), some (ab_I l3), some (ab_I l4), some (ab_I l5), some (ab_I l6), some (ab_I l7), none] [ab_I t0] [w0, w1] kc ks := ab_go hx kX7_divide.2 34 [(46, [true, true, true, true, true, true, true, false, false]), (77, [true, false, true, true, true, true, true, true, false]), (128, [true, false, true, true, true, true, true, true, true]), (139, [true, false, true, true, true, true, true, true, true]), (175, [true, false, true, false, false, false, false, false, false]), (186, [false, false, false, false, false, false, false, false, false])] 77 h
set_option maxRecDepth 100000 in
theorem vX7_divide_139 {x : ab_Cx} {d mc ms : Nat} {Post : Option ab_V → List ab_Ob → Prop} (hx : ab_At x mX7_divide d mc ms Post) (l2 l3 l4 l5 l6 l7 l8 : Int) (w0 w1 : ab_Ob) (kc ks : Nat)
    (h : ((-2147483648 ≤ l6 + 1 ∧ l6 + 1 ≤ 2147483647) ∧ ((l4 ≤ (l6 + 1) → ab_J x 186 [none, none, none, none, none, none, none, none, none] [] [w0, w1] kc ks) ∧ (¬ l4 ≤ (l6 + 1) → ((-2147483648 ≤ l2 + 1 ∧ l2 + 1 ≤ 2147483647) ∧ ((-2147483648 ≤ (l2 + 1) + l6 ∧ (l2 + 1) + l6 ≤ 2147483647) ∧ ((-2147483648 ≤ ((l2 + 1) + l6) - l3 ∧ ((l2 + 1) + l6) - l3 ≤ 2147483647) ∧ ((-2147483648 ≤ l6 + 1 ∧ l6 + 1 ≤ 2147483647) ∧ ((l7 = 0 → ab_J x 175 [some (ab_O 0), none, some (ab_I l2), none, none, none, none, none, none] [ab_I l5, ab_I l4, ab_I (l6 + 1), ab_I (((l2 + 1) + l6) - l3), ab_O 0] [w0, w1] kc ks) ∧ (¬ l7 = 0 → ab_J x 175 [some (ab_O 0), none, some (ab_I l2), none, none, none, none, none, none] [ab_I l8, ab_I l4, ab_I (l6 + 1), ab_I (((l2 + 1) + l6) - l3), ab_O 0] [w0, w1] kc ks)))))))))) :
    ab_J x 139 [some (ab_O 0), none, some (ab_I l2), some (ab_I l3), some (ab_I l4), some (ab_I l5), some (ab_I l6), some (ab_I l7), some (ab_I l8)] [] [w0, w1] kc ks := ab_go hx kX7_divide.2 26 [(46, [true, true, true, true, true, true, true, false, false]), (77, [true, false, true, true, true, true, true, true, false]), (128, [true, false, true, true, true, true, true, true, true]), (139, [true, false, true, true, true, true, true, true, true]), (175, [true, false, true, false, false, false, false, false, false]), (186, [false, false, false, false, false, false, false, false, false])] 139 h
set_option maxRecDepth 100000 in
theorem vX7_divide_128 {x : ab_Cx} {d mc ms : Nat} {Post : Option ab_V → List ab_Ob → Prop} (hx : ab_At x mX7_divide d mc ms Post) (l2 l3 l4 l5 l6 l7 l8 t0 t1 t2 t3 : Int) (w0 w1 : ab_Ob) (kc ks : Nat)
    (h : ((0 ≤ l2 ∧ l2 < (w0.2 8).1) ∧ ((-2147483648 ≤ ((w0.2 8).2 l2) + 1 ∧ ((w0.2 8).2 l2) + 1 ≤ 2147483647) ∧ (∃ Q1 : Option ab_V → List ab_Ob → Prop, ab_Ct d 0 0 mX7_open [ab_O 0, ab_I t3, ab_I t2, ab_I t1, ab_I t0, ab_I (((w0.2 8).2 l2) + 1)] [w0] Q1 ∧ (∀ v2 : ab_Ob, Q1 none [v2] → ab_J x 139 [some (ab_O 0), none, some (ab_I l2), some (ab_I l3), some (ab_I l4), some (ab_I l5), some (ab_I l6), some (ab_I l7), some (ab_I l8)] [] [v2, w1] kc ks))))) :
    ab_J x 128 [some (ab_O 0), none, some (ab_I l2), some (ab_I l3), some (ab_I l4), some (ab_I l5), some (ab_I l6), some (ab_I l7), some (ab_I l8)] [ab_I t0, ab_I t1, ab_I t2, ab_I t3, ab_O 0] [w0, w1] kc ks := ab_go hx kX7_divide.2 12 [(46, [true, true, true, true, true, true, true, false, false]), (77, [true, false, true, true, true, true, true, true, false]), (128, [true, false, true, true, true, true, true, true, true]), (139, [true, false, true, true, true, true, true, true, true]), (175, [true, false, true, false, false, false, false, false, false]), (186, [false, false, false, false, false, false, false, false, false])] 128 h
set_option maxRecDepth 100000 in
theorem vX7_divide_186 {x : ab_Cx} {d mc ms : Nat} {Post : Option ab_V → List ab_Ob → Prop} (hx : ab_At x mX7_divide d mc ms Post) (w0 w1 : ab_Ob) (kc ks : Nat)
    (h : Post none [w0, w1]) :
    ab_J x 186 [none, none, none, none, none, none, none, none, none] [] [w0, w1] kc ks := ab_go hx kX7_divide.2 5 [(46, [true, true, true, true, true, true, true, false, false]), (77, [true, false, true, true, true, true, true, true, false]), (128, [true, false, true, true, true, true, true, true, true]), (139, [true, false, true, true, true, true, true, true, true]), (175, [true, false, true, false, false, false, false, false, false]), (186, [false, false, false, false, false, false, false, false, false])] 186 h
set_option maxRecDepth 100000 in
theorem vX7_divide_175 {x : ab_Cx} {d mc ms : Nat} {Post : Option ab_V → List ab_Ob → Prop} (hx : ab_At x mX7_divide d mc ms Post) (l2 t0 t1 t2 t3 : Int) (w0 w1 : ab_Ob) (kc ks : Nat)
    (h : ((0 ≤ l2 ∧ l2 < (w0.2 8).1) ∧ ((-2147483648 ≤ ((w0.2 8).2 l2) + 1 ∧ ((w0.2 8).2 l2) + 1 ≤ 2147483647) ∧ (∃ Q1 : Option ab_V → List ab_Ob → Prop, ab_Ct d 0 0 mX7_open [ab_O 0, ab_I t3, ab_I t2, ab_I t1, ab_I t0, ab_I (((w0.2 8).2 l2) + 1)] [w0] Q1 ∧ (∀ v2 : ab_Ob, Q1 none [v2] → ab_J x 186 [none, none, none, none, none, none, none, none, none] [] [v2, w1] kc ks))))) :
    ab_J x 175 [some (ab_O 0), none, some (ab_I l2), none, none, none, none, none, none] [ab_I t0, ab_I t1, ab_I t2, ab_I t3, ab_O 0] [w0, w1] kc ks := ab_go hx kX7_divide.2 12 [(46, [true, true, true, true, true, true, true, false, false]), (77, [true, false, true, true, true, true, true, true, false]), (128, [true, false, true, true, true, true, true, true, true]), (139, [true, false, true, true, true, true, true, true, true]), (175, [true, false, true, false, false, false, false, false, false]), (186, [false, false, false, false, false, false, false, false, false])] 175 h
def mX7_build : ab_M := ((yX7_build, cX7_build, 6, none), ([7, 1], [(0, 0), (1, 0)], [true, false], false, false, 0), (false, 7, 3))
def rX7_build : List ab_R := [(0, .aload_n 0, 1, 0, 0, 0, [], none),
  (1, .iload_n 2, 1, 0, 0, 0, [], none),
  (2, .putfield 9, 3, 7, 0, 0, [], none),
  (5, .aload_n 0, 1, 0, 0, 0, [], none),
  (6, .iload_n 3, 1, 0, 0, 0, [], none),
  (7, .putfield 15, 3, 7, 1, 0, [], none),
  (10, .aload_n 0, 1, 0, 0, 0, [], none),
  (11, .iload_n 3, 1, 0, 0, 0, [], none),
  (12, .iload_n 2, 1, 0, 0, 0, [], none),
  (13, .isub, 1, 0, 0, 0, [], none),
  (14, .putfield 18, 3, 7, 2, 0, [], none),
  (17, .aload_n 1, 1, 0, 0, 0, [], none),
  (18, .iload_n 2, 1, 0, 0, 0, [], none),
  (19, .iload_n 3, 1, 0, 0, 0, [], none),
  (20, .invokevirtual 43, 3, 0, 0, 0, [], some mX1_bestHead),
  (23, .istore 4, 2, 0, 0, 0, [], none),
  (25, .aload_n 0, 1, 0, 0, 0, [], none),
  (26, .getfield 40, 3, 7, 9, 0, [], none),
  (29, .iload 4, 2, 0, 0, 0, [], none),
  (31, .iconst (-1), 1, 0, 0, 0, [], none),
  (32, .iastore, 1, 0, 0, 0, [], none),
  (33, .aload_n 0, 1, 0, 0, 0, [], none),
  (34, .getfield 18, 3, 7, 2, 0, [], none),
  (37, .ifCond .le 13, 3, 0, 0, 0, [50], none),
  (40, .aload_n 0, 1, 0, 0, 0, [], none),
  (41, .iconst 0, 1, 0, 0, 0, [], none),
  (42, .iload_n 2, 1, 0, 0, 0, [], none),
  (43, .iload_n 3, 1, 0, 0, 0, [], none),
  (44, .iload 4, 2, 0, 0, 0, [], none),
  (46, .iconst 0, 1, 0, 0, 0, [], none),
  (47, .invokevirtual 49, 3, 0, 0, 0, [], some mX7_open),
  (50, .iconst 0, 1, 0, 0, 0, [], none),
  (51, .istore 5, 2, 0, 0, 0, [], none),
  (53, .iload 5, 2, 0, 0, 0, [], none),
  (55, .aload_n 0, 1, 0, 0, 0, [], none),
  (56, .getfield 18, 3, 7, 2, 0, [], none),
  (59, .if_icmp .ge 16, 3, 0, 0, 0, [75], none),
  (62, .aload_n 0, 1, 0, 0, 0, [], none),
  (63, .aload_n 1, 1, 0, 0, 0, [], none),
  (64, .iload 5, 2, 0, 0, 0, [], none),
  (66, .invokevirtual 53, 3, 0, 0, 0, [], some mX7_divide),
  (69, .iinc 5 1, 3, 0, 0, 0, [], none),
  (72, .goto (-19), 3, 0, 0, 0, [53], none),
  (75, .return_, 1, 0, 0, 0, [], none)]
set_option maxRecDepth 100000 in
theorem kX7_build : ab_def_ok mX7_build rX7_build := ⟨ab_mok_of 691 105 689 690 (by decide +kernel), [0, 0, 291, 0, 0, 292, 0, 0, 0, 0, 293, 0, 0, 0, 692, 0, 0, 312, 0, 0, 0, 0, 293, 0, 0, 0, 0, 0, 0, 0, 696, 0, 0, 0, 0, 293, 0, 0, 0, 0, 700, 0, 0, 0], by decide +kernel⟩
set_option maxRecDepth 100000 in
theorem vX7_build_0 {x : ab_Cx} {d mc ms : Nat} {Post : Option ab_V → List ab_Ob → Prop} (hx : ab_At x mX7_build d mc ms Post) (a2 a3 : Int) (w0 w1 : ab_Ob) (kc ks : Nat)
    (h : ((-2147483648 ≤ a3 - a2 ∧ a3 - a2 ≤ 2147483647) ∧ (∃ Q1 : Option ab_V → List ab_Ob → Prop, ab_Ct d 0 0 mX1_bestHead [ab_O 0, ab_I a2, ab_I a3] [w1] Q1 ∧ (∀ r2 : Int, Q1 (some (ab_I r2)) [w1] → ((0 ≤ r2 ∧ r2 < (w0.2 9).1) ∧ (((a3 - a2) ≤ 0 → ab_J x 53 [some (ab_O 0), some (ab_O 1), none, none, none, some (ab_I 0)] [] [(ab_pa (ab_pf (ab_pf (ab_pf w0 0 a2) 1 a3) 2 (a3 - a2)) 9 r2 (-1)), w1] kc ks) ∧ (¬ (a3 - a2) ≤ 0 → (∃ Q3 : Option ab_V → List ab_Ob → Prop, ab_Ct d 0 0 mX7_open [ab_O 0, ab_I 0, ab_I a2, ab_I a3, ab_I r2, ab_I 0] [(ab_pa (ab_pf (ab_pf (ab_pf w0 0 a2) 1 a3) 2 (a3 - a2)) 9 r2 (-1))] Q3 ∧ (∀ v4 : ab_Ob, Q3 none [v4] → ab_J x 53 [some (ab_O 0), some (ab_O 1), none, none, none, some (ab_I 0)] [] [v4, w1] kc ks))))))))) :
    ab_J x 0 [some (ab_O 0), some (ab_O 1), some (ab_I a2), some (ab_I a3), none, none] [] [w0, w1] kc ks := ab_go hx kX7_build.2 38 [(53, [true, true, false, false, false, true])] 0 h
set_option maxRecDepth 100000 in
theorem vX7_build_53 {x : ab_Cx} {d mc ms : Nat} {Post : Option ab_V → List ab_Ob → Prop} (hx : ab_At x mX7_build d mc ms Post) (l5 : Int) (w0 w1 : ab_Ob) (kc ks : Nat)
    (h : (((w0.1 2) ≤ l5 → Post none [w0, w1]) ∧ (¬ (w0.1 2) ≤ l5 → (∃ Q1 : Option ab_V → List ab_Ob → Prop, ab_Ct d 0 0 mX7_divide [ab_O 0, ab_O 1, ab_I l5] [w0, w1] Q1 ∧ (∀ v2 : ab_Ob, Q1 none [v2, w1] → ((-2147483648 ≤ l5 + 1 ∧ l5 + 1 ≤ 2147483647) ∧ ab_J x 53 [some (ab_O 0), some (ab_O 1), none, none, none, some (ab_I (l5 + 1))] [] [v2, w1] kc ks)))))) :
    ab_J x 53 [some (ab_O 0), some (ab_O 1), none, none, none, some (ab_I l5)] [] [w0, w1] kc ks := ab_go hx kX7_build.2 15 [(53, [true, true, false, false, false, true])] 53 h
def mX7_leftNotes : ab_M := ((yX7_leftNotes, cX7_leftNotes, 2, (some .int)), ([7], [(0, 0)], [false], false, false, 0), (false, 7, 1))
def rX7_leftNotes : List ab_R := [(0, .aload_n 0, 1, 0, 0, 0, [], none),
  (1, .getfield 28, 3, 7, 5, 0, [], none),
  (4, .iload_n 1, 1, 0, 0, 0, [], none),
  (5, .iaload, 1, 0, 0, 0, [], none),
  (6, .iconst 1, 1, 0, 0, 0, [], none),
  (7, .iadd, 1, 0, 0, 0, [], none),
  (8, .aload_n 0, 1, 0, 0, 0, [], none),
  (9, .getfield 21, 3, 7, 3, 0, [], none),
  (12, .iload_n 1, 1, 0, 0, 0, [], none),
  (13, .iaload, 1, 0, 0, 0, [], none),
  (14, .isub, 1, 0, 0, 0, [], none),
  (15, .ireturn, 1, 0, 0, 0, [], none)]
set_option maxRecDepth 100000 in
theorem kX7_leftNotes : ab_def_ok mX7_leftNotes rX7_leftNotes := ⟨ab_mok_of 835 105 834 31 (by decide +kernel), [0, 302, 0, 0, 0, 0, 0, 296, 0, 0, 0, 0], by decide +kernel⟩
set_option maxRecDepth 100000 in
theorem vX7_leftNotes_0 {x : ab_Cx} {d mc ms : Nat} {Post : Option ab_V → List ab_Ob → Prop} (hx : ab_At x mX7_leftNotes d mc ms Post) (a1 : Int) (w0 : ab_Ob) (kc ks : Nat)
    (h : ((0 ≤ a1 ∧ a1 < (w0.2 5).1) ∧ ((-2147483648 ≤ ((w0.2 5).2 a1) + 1 ∧ ((w0.2 5).2 a1) + 1 ≤ 2147483647) ∧ ((0 ≤ a1 ∧ a1 < (w0.2 3).1) ∧ ((-2147483648 ≤ (((w0.2 5).2 a1) + 1) - ((w0.2 3).2 a1) ∧ (((w0.2 5).2 a1) + 1) - ((w0.2 3).2 a1) ≤ 2147483647) ∧ Post (some (ab_I ((((w0.2 5).2 a1) + 1) - ((w0.2 3).2 a1)))) [w0]))))) :
    ab_J x 0 [some (ab_O 0), some (ab_I a1)] [] [w0] kc ks := ab_go hx kX7_leftNotes.2 16 [] 0 h
def mX7_rightNotes : ab_M := ((yX7_rightNotes, cX7_rightNotes, 2, (some .int)), ([7], [(0, 0)], [false], false, false, 0), (false, 7, 1))
def rX7_rightNotes : List ab_R := [(0, .aload_n 0, 1, 0, 0, 0, [], none),
  (1, .getfield 25, 3, 7, 4, 0, [], none),
  (4, .iload_n 1, 1, 0, 0, 0, [], none),
  (5, .iaload, 1, 0, 0, 0, [], none),
  (6, .aload_n 0, 1, 0, 0, 0, [], none),
  (7, .getfield 28, 3, 7, 5, 0, [], none),
  (10, .iload_n 1, 1, 0, 0, 0, [], none),
  (11, .iaload, 1, 0, 0, 0, [], none),
  (12, .isub, 1, 0, 0, 0, [], none),
  (13, .ireturn, 1, 0, 0, 0, [], none)]
set_option maxRecDepth 100000 in
theorem kX7_rightNotes : ab_def_ok mX7_rightNotes rX7_rightNotes := ⟨ab_mok_of 839 105 838 32 (by decide +kernel), [0, 299, 0, 0, 0, 302, 0, 0, 0, 0], by decide +kernel⟩
set_option maxRecDepth 100000 in
theorem vX7_rightNotes_0 {x : ab_Cx} {d mc ms : Nat} {Post : Option ab_V → List ab_Ob → Prop} (hx : ab_At x mX7_rightNotes d mc ms Post) (a1 : Int) (w0 : ab_Ob) (kc ks : Nat)
    (h : ((0 ≤ a1 ∧ a1 < (w0.2 4).1) ∧ ((0 ≤ a1 ∧ a1 < (w0.2 5).1) ∧ ((-2147483648 ≤ ((w0.2 4).2 a1) - ((w0.2 5).2 a1) ∧ ((w0.2 4).2 a1) - ((w0.2 5).2 a1) ≤ 2147483647) ∧ Post (some (ab_I (((w0.2 4).2 a1) - ((w0.2 5).2 a1)))) [w0])))) :
    ab_J x 0 [some (ab_O 0), some (ab_I a1)] [] [w0] kc ks := ab_go hx kX7_rightNotes.2 14 [] 0 h
def mX7_unitsAt : ab_M := ((yX7_unitsAt, cX7_unitsAt, 4, (some .int)), ([7, 5], [(0, 0), (1, 0)], [false, false], false, false, 0), (false, 7, 3))
def rX7_unitsAt : List ab_R := [(0, .aload_n 1, 1, 0, 0, 0, [], none),
  (1, .iload_n 2, 1, 0, 0, 0, [], none),
  (2, .aload_n 0, 1, 0, 0, 0, [], none),
  (3, .getfield 31, 3, 7, 6, 0, [], none),
  (6, .iload_n 3, 1, 0, 0, 0, [], none),
  (7, .iaload, 1, 0, 0, 0, [], none),
  (8, .aload_n 0, 1, 0, 0, 0, [], none),
  (9, .getfield 34, 3, 7, 7, 0, [], none),
  (12, .iload_n 3, 1, 0, 0, 0, [], none),
  (13, .iaload, 1, 0, 0, 0, [], none),
  (14, .aload_n 0, 1, 0, 0, 0, [], none),
  (15, .iload_n 3, 1, 0, 0, 0, [], none),
  (16, .invokevirtual 64, 3, 0, 0, 0, [], some mX7_leftNotes),
  (19, .aload_n 0, 1, 0, 0, 0, [], none),
  (20, .iload_n 3, 1, 0, 0, 0, [], none),
  (21, .invokevirtual 68, 3, 0, 0, 0, [], some mX7_rightNotes),
  (24, .invokevirtual 71, 3, 0, 0, 0, [], some mX5_units),
  (27, .ireturn, 1, 0, 0, 0, [], none)]
set_option maxRecDepth 100000 in
theorem kX7_unitsAt : ab_def_ok mX7_unitsAt rX7_unitsAt := ⟨ab_mok_of 852 105 850 851 (by decide +kernel), [0, 0, 0, 304, 0, 0, 0, 307, 0, 0, 0, 0, 832, 0, 0, 836, 853, 0], by decide +kernel⟩
set_option maxRecDepth 100000 in
theorem vX7_unitsAt_0 {x : ab_Cx} {d mc ms : Nat} {Post : Option ab_V → List ab_Ob → Prop} (hx : ab_At x mX7_unitsAt d mc ms Post) (a2 a3 : Int) (w0 w1 : ab_Ob) (kc ks : Nat)
    (h : ((0 ≤ a3 ∧ a3 < (w0.2 6).1) ∧ ((0 ≤ a3 ∧ a3 < (w0.2 7).1) ∧ (∃ Q1 : Option ab_V → List ab_Ob → Prop, ab_Ct d 0 0 mX7_leftNotes [ab_O 0, ab_I a3] [w0] Q1 ∧ (∀ r2 : Int, Q1 (some (ab_I r2)) [w0] → (∃ Q3 : Option ab_V → List ab_Ob → Prop, ab_Ct d 0 0 mX7_rightNotes [ab_O 0, ab_I a3] [w0] Q3 ∧ (∀ r4 : Int, Q3 (some (ab_I r4)) [w0] → (∃ Q5 : Option ab_V → List ab_Ob → Prop, ab_Ct d 0 0 mX5_units [ab_O 0, ab_I a2, ab_I ((w0.2 6).2 a3), ab_I ((w0.2 7).2 a3), ab_I r2, ab_I r4] [w1] Q5 ∧ (∀ r6 : Int, Q5 (some (ab_I r6)) [w1] → Post (some (ab_I r6)) [w0, w1]))))))))) :
    ab_J x 0 [some (ab_O 0), some (ab_O 1), some (ab_I a2), some (ab_I a3)] [] [w0, w1] kc ks := ab_go hx kX7_unitsAt.2 22 [] 0 h
def mX7_unitsOf : ab_M := ((yX7_unitsOf, cX7_unitsOf, 5, (some .int)), ([7, 5], [(0, 0), (1, 0)], [false, false], false, false, 0), (false, 7, 2))
def rX7_unitsOf : List ab_R := [(0, .iconst 0, 1, 0, 0, 0, [], none),
  (1, .istore_n 3, 1, 0, 0, 0, [], none),
  (2, .iconst 0, 1, 0, 0, 0, [], none),
  (3, .istore 4, 2, 0, 0, 0, [], none),
  (5, .iload 4, 2, 0, 0, 0, [], none),
  (7, .aload_n 0, 1, 0, 0, 0, [], none),
  (8, .getfield 18, 3, 7, 2, 0, [], none),
  (11, .if_icmp .ge 20, 3, 0, 0, 0, [31], none),
  (14, .iload_n 3, 1, 0, 0, 0, [], none),
  (15, .aload_n 0, 1, 0, 0, 0, [], none),
  (16, .aload_n 1, 1, 0, 0, 0, [], none),
  (17, .iload_n 2, 1, 0, 0, 0, [], none),
  (18, .iload 4, 2, 0, 0, 0, [], none),
  (20, .invokevirtual 77, 3, 0, 0, 0, [], some mX7_unitsAt),
  (23, .iadd, 1, 0, 0, 0, [], none),
  (24, .istore_n 3, 1, 0, 0, 0, [], none),
  (25, .iinc 4 1, 3, 0, 0, 0, [], none),
  (28, .goto (-23), 3, 0, 0, 0, [5], none),
  (31, .iload_n 3, 1, 0, 0, 0, [], none),
  (32, .ireturn, 1, 0, 0, 0, [], none)]
set_option maxRecDepth 100000 in
theorem kX7_unitsOf : ab_def_ok mX7_unitsOf rX7_unitsOf := ⟨ab_mok_of 848 105 846 847 (by decide +kernel), [0, 0, 0, 0, 0, 0, 293, 0, 0, 0, 0, 0, 0, 849, 0, 0, 0, 0, 0, 0], by decide +kernel⟩
set_option maxRecDepth 100000 in
theorem vX7_unitsOf_0 {x : ab_Cx} {d mc ms : Nat} {Post : Option ab_V → List ab_Ob → Prop} (hx : ab_At x mX7_unitsOf d mc ms Post) (a2 : Int) (w0 w1 : ab_Ob) (kc ks : Nat)
    (h : ab_J x 5 [some (ab_O 0), some (ab_O 1), some (ab_I a2), some (ab_I 0), some (ab_I 0)] [] [w0, w1] kc ks) :
    ab_J x 0 [some (ab_O 0), some (ab_O 1), some (ab_I a2), none, none] [] [w0, w1] kc ks := ab_go hx kX7_unitsOf.2 9 [(5, [true, true, true, true, true])] 0 h
set_option maxRecDepth 100000 in
theorem vX7_unitsOf_5 {x : ab_Cx} {d mc ms : Nat} {Post : Option ab_V → List ab_Ob → Prop} (hx : ab_At x mX7_unitsOf d mc ms Post) (l2 l3 l4 : Int) (w0 w1 : ab_Ob) (kc ks : Nat)
    (h : (((w0.1 2) ≤ l4 → Post (some (ab_I l3)) [w0, w1]) ∧ (¬ (w0.1 2) ≤ l4 → (∃ Q1 : Option ab_V → List ab_Ob → Prop, ab_Ct d 0 0 mX7_unitsAt [ab_O 0, ab_O 1, ab_I l2, ab_I l4] [w0, w1] Q1 ∧ (∀ r2 : Int, Q1 (some (ab_I r2)) [w0, w1] → ((-2147483648 ≤ l3 + r2 ∧ l3 + r2 ≤ 2147483647) ∧ ((-2147483648 ≤ l4 + 1 ∧ l4 + 1 ≤ 2147483647) ∧ ab_J x 5 [some (ab_O 0), some (ab_O 1), some (ab_I l2), some (ab_I (l3 + r2)), some (ab_I (l4 + 1))] [] [w0, w1] kc ks))))))) :
    ab_J x 5 [some (ab_O 0), some (ab_O 1), some (ab_I l2), some (ab_I l3), some (ab_I l4)] [] [w0, w1] kc ks := ab_go hx kX7_unitsOf.2 19 [(5, [true, true, true, true, true])] 5 h
def mX7_breaksAt : ab_M := ((yX7_breaksAt, cX7_breaksAt, 3, (some .int)), ([7, 5], [(0, 0), (1, 0)], [false, false], false, false, 0), (false, 7, 2))
def rX7_breaksAt : List ab_R := [(0, .aload_n 1, 1, 0, 0, 0, [], none),
  (1, .aload_n 0, 1, 0, 0, 0, [], none),
  (2, .getfield 31, 3, 7, 6, 0, [], none),
  (5, .iload_n 2, 1, 0, 0, 0, [], none),
  (6, .iaload, 1, 0, 0, 0, [], none),
  (7, .aload_n 0, 1, 0, 0, 0, [], none),
  (8, .getfield 34, 3, 7, 7, 0, [], none),
  (11, .iload_n 2, 1, 0, 0, 0, [], none),
  (12, .iaload, 1, 0, 0, 0, [], none),
  (13, .aload_n 0, 1, 0, 0, 0, [], none),
  (14, .iload_n 2, 1, 0, 0, 0, [], none),
  (15, .invokevirtual 64, 3, 0, 0, 0, [], some mX7_leftNotes),
  (18, .aload_n 0, 1, 0, 0, 0, [], none),
  (19, .iload_n 2, 1, 0, 0, 0, [], none),
  (20, .invokevirtual 68, 3, 0, 0, 0, [], some mX7_rightNotes),
  (23, .invokevirtual 81, 3, 0, 0, 0, [], some mX5_breaking),
  (26, .ireturn, 1, 0, 0, 0, [], none)]
set_option maxRecDepth 100000 in
theorem kX7_breaksAt : ab_def_ok mX7_breaksAt rX7_breaksAt := ⟨ab_mok_of 831 105 829 830 (by decide +kernel), [0, 0, 304, 0, 0, 0, 307, 0, 0, 0, 0, 832, 0, 0, 836, 840, 0], by decide +kernel⟩
set_option maxRecDepth 100000 in
theorem vX7_breaksAt_0 {x : ab_Cx} {d mc ms : Nat} {Post : Option ab_V → List ab_Ob → Prop} (hx : ab_At x mX7_breaksAt d mc ms Post) (a2 : Int) (w0 w1 : ab_Ob) (kc ks : Nat)
    (h : ((0 ≤ a2 ∧ a2 < (w0.2 6).1) ∧ ((0 ≤ a2 ∧ a2 < (w0.2 7).1) ∧ (∃ Q1 : Option ab_V → List ab_Ob → Prop, ab_Ct d 0 0 mX7_leftNotes [ab_O 0, ab_I a2] [w0] Q1 ∧ (∀ r2 : Int, Q1 (some (ab_I r2)) [w0] → (∃ Q3 : Option ab_V → List ab_Ob → Prop, ab_Ct d 0 0 mX7_rightNotes [ab_O 0, ab_I a2] [w0] Q3 ∧ (∀ r4 : Int, Q3 (some (ab_I r4)) [w0] → (∃ Q5 : Option ab_V → List ab_Ob → Prop, ab_Ct d 0 0 mX5_breaking [ab_O 0, ab_I ((w0.2 6).2 a2), ab_I ((w0.2 7).2 a2), ab_I r2, ab_I r4] [w1] Q5 ∧ (∀ r6 : Int, Q5 (some (ab_I r6)) [w1] → Post (some (ab_I r6)) [w0, w1]))))))))) :
    ab_J x 0 [some (ab_O 0), some (ab_O 1), some (ab_I a2)] [] [w0, w1] kc ks := ab_go hx kX7_breaksAt.2 21 [] 0 h
def mX7_breaksOfAll : ab_M := ((yX7_breaksOfAll, cX7_breaksOfAll, 4, (some .int)), ([7, 5], [(0, 0), (1, 0)], [false, false], false, false, 0), (false, 7, 1))
def rX7_breaksOfAll : List ab_R := [(0, .iconst 0, 1, 0, 0, 0, [], none),
  (1, .istore_n 2, 1, 0, 0, 0, [], none),
  (2, .iconst 0, 1, 0, 0, 0, [], none),
  (3, .istore_n 3, 1, 0, 0, 0, [], none),
  (4, .iload_n 3, 1, 0, 0, 0, [], none),
  (5, .aload_n 0, 1, 0, 0, 0, [], none),
  (6, .getfield 18, 3, 7, 2, 0, [], none),
  (9, .if_icmp .ge 18, 3, 0, 0, 0, [27], none),
  (12, .iload_n 2, 1, 0, 0, 0, [], none),
  (13, .aload_n 0, 1, 0, 0, 0, [], none),
  (14, .aload_n 1, 1, 0, 0, 0, [], none),
  (15, .iload_n 3, 1, 0, 0, 0, [], none),
  (16, .invokevirtual 85, 3, 0, 0, 0, [], some mX7_breaksAt),
  (19, .iadd, 1, 0, 0, 0, [], none),
  (20, .istore_n 2, 1, 0, 0, 0, [], none),
  (21, .iinc 3 1, 3, 0, 0, 0, [], none),
  (24, .goto (-20), 3, 0, 0, 0, [4], none),
  (27, .iload_n 2, 1, 0, 0, 0, [], none),
  (28, .ireturn, 1, 0, 0, 0, [], none)]
set_option maxRecDepth 100000 in
theorem kX7_breaksOfAll : ab_def_ok mX7_breaksOfAll rX7_breaksOfAll := ⟨ab_mok_of 1058 105 1056 1057 (by decide +kernel), [0, 0, 0, 0, 0, 0, 293, 0, 0, 0, 0, 0, 1059, 0, 0, 0, 0, 0, 0], by decide +kernel⟩
set_option maxRecDepth 100000 in
theorem vX7_breaksOfAll_0 {x : ab_Cx} {d mc ms : Nat} {Post : Option ab_V → List ab_Ob → Prop} (hx : ab_At x mX7_breaksOfAll d mc ms Post) (w0 w1 : ab_Ob) (kc ks : Nat)
    (h : ab_J x 4 [some (ab_O 0), some (ab_O 1), some (ab_I 0), some (ab_I 0)] [] [w0, w1] kc ks) :
    ab_J x 0 [some (ab_O 0), some (ab_O 1), none, none] [] [w0, w1] kc ks := ab_go hx kX7_breaksOfAll.2 9 [(4, [true, true, true, true])] 0 h
set_option maxRecDepth 100000 in
theorem vX7_breaksOfAll_4 {x : ab_Cx} {d mc ms : Nat} {Post : Option ab_V → List ab_Ob → Prop} (hx : ab_At x mX7_breaksOfAll d mc ms Post) (l2 l3 : Int) (w0 w1 : ab_Ob) (kc ks : Nat)
    (h : (((w0.1 2) ≤ l3 → Post (some (ab_I l2)) [w0, w1]) ∧ (¬ (w0.1 2) ≤ l3 → (∃ Q1 : Option ab_V → List ab_Ob → Prop, ab_Ct d 0 0 mX7_breaksAt [ab_O 0, ab_O 1, ab_I l3] [w0, w1] Q1 ∧ (∀ r2 : Int, Q1 (some (ab_I r2)) [w0, w1] → ((-2147483648 ≤ l2 + r2 ∧ l2 + r2 ≤ 2147483647) ∧ ((-2147483648 ≤ l3 + 1 ∧ l3 + 1 ≤ 2147483647) ∧ ab_J x 4 [some (ab_O 0), some (ab_O 1), some (ab_I (l2 + r2)), some (ab_I (l3 + 1))] [] [w0, w1] kc ks))))))) :
    ab_J x 4 [some (ab_O 0), some (ab_O 1), some (ab_I l2), some (ab_I l3)] [] [w0, w1] kc ks := ab_go hx kX7_breaksOfAll.2 18 [(4, [true, true, true, true])] 4 h
def mX7_greatestDepth : ab_M := ((yX7_greatestDepth, cX7_greatestDepth, 3, (some .int)), ([7], [(0, 0)], [false], false, false, 0), (false, 7, 0))
def rX7_greatestDepth : List ab_R := [(0, .iconst 0, 1, 0, 0, 0, [], none),
  (1, .istore_n 1, 1, 0, 0, 0, [], none),
  (2, .iconst 0, 1, 0, 0, 0, [], none),
  (3, .istore_n 2, 1, 0, 0, 0, [], none),
  (4, .iload_n 2, 1, 0, 0, 0, [], none),
  (5, .aload_n 0, 1, 0, 0, 0, [], none),
  (6, .getfield 18, 3, 7, 2, 0, [], none),
  (9, .if_icmp .ge 22, 3, 0, 0, 0, [31], none),
  (12, .iload_n 1, 1, 0, 0, 0, [], none),
  (13, .aload_n 0, 1, 0, 0, 0, [], none),
  (14, .getfield 37, 3, 7, 8, 0, [], none),
  (17, .iload_n 2, 1, 0, 0, 0, [], none),
  (18, .iaload, 1, 0, 0, 0, [], none),
  (19, .iconst 1, 1, 0, 0, 0, [], none),
  (20, .iadd, 1, 0, 0, 0, [], none),
  (21, .invokestatic 89, 3, 0, 0, 10, [], none),
  (24, .istore_n 1, 1, 0, 0, 0, [], none),
  (25, .iinc 2 1, 3, 0, 0, 0, [], none),
  (28, .goto (-24), 3, 0, 0, 0, [4], none),
  (31, .iload_n 1, 1, 0, 0, 0, [], none),
  (32, .ireturn, 1, 0, 0, 0, [], none)]
set_option maxRecDepth 100000 in
theorem kX7_greatestDepth : ab_def_ok mX7_greatestDepth rX7_greatestDepth := ⟨ab_mok_of 861 105 859 860 (by decide +kernel), [0, 0, 0, 0, 0, 0, 293, 0, 0, 0, 309, 0, 0, 0, 0, 862, 0, 0, 0, 0, 0], by decide +kernel⟩
set_option maxRecDepth 100000 in
theorem vX7_greatestDepth_0 {x : ab_Cx} {d mc ms : Nat} {Post : Option ab_V → List ab_Ob → Prop} (hx : ab_At x mX7_greatestDepth d mc ms Post) (w0 : ab_Ob) (kc ks : Nat)
    (h : ab_J x 4 [some (ab_O 0), some (ab_I 0), some (ab_I 0)] [] [w0] kc ks) :
    ab_J x 0 [some (ab_O 0), none, none] [] [w0] kc ks := ab_go hx kX7_greatestDepth.2 9 [(4, [true, true, true])] 0 h
set_option maxRecDepth 100000 in
theorem vX7_greatestDepth_4 {x : ab_Cx} {d mc ms : Nat} {Post : Option ab_V → List ab_Ob → Prop} (hx : ab_At x mX7_greatestDepth d mc ms Post) (l1 l2 : Int) (w0 : ab_Ob) (kc ks : Nat)
    (h : (((w0.1 2) ≤ l2 → Post (some (ab_I l1)) [w0]) ∧ (¬ (w0.1 2) ≤ l2 → ((0 ≤ l2 ∧ l2 < (w0.2 8).1) ∧ ((-2147483648 ≤ ((w0.2 8).2 l2) + 1 ∧ ((w0.2 8).2 l2) + 1 ≤ 2147483647) ∧ ((-2147483648 ≤ l2 + 1 ∧ l2 + 1 ≤ 2147483647) ∧ ab_J x 4 [some (ab_O 0), some (ab_I (if l1 < (((w0.2 8).2 l2) + 1) then (((w0.2 8).2 l2) + 1) else l1)), some (ab_I (l2 + 1))] [] [w0] kc ks)))))) :
    ab_J x 4 [some (ab_O 0), some (ab_I l1), some (ab_I l2)] [] [w0] kc ks := ab_go hx kX7_greatestDepth.2 20 [(4, [true, true, true])] 4 h
def mX7_rank : ab_M := ((yX7_rank, cX7_rank, 2, (some .int)), ([7], [(0, 0)], [false], false, false, 0), (false, 7, 1))
def rX7_rank : List ab_R := [(0, .aload_n 0, 1, 0, 0, 0, [], none),
  (1, .getfield 40, 3, 7, 9, 0, [], none),
  (4, .iload_n 1, 1, 0, 0, 0, [], none),
  (5, .iaload, 1, 0, 0, 0, [], none),
  (6, .iconst (-1), 1, 0, 0, 0, [], none),
  (7, .if_icmp .ne 7, 3, 0, 0, 0, [14], none),
  (10, .iconst 0, 1, 0, 0, 0, [], none),
  (11, .goto 16, 3, 0, 0, 0, [27], none),
  (14, .aload_n 0, 1, 0, 0, 0, [], none),
  (15, .getfield 37, 3, 7, 8, 0, [], none),
  (18, .aload_n 0, 1, 0, 0, 0, [], none),
  (19, .getfield 40, 3, 7, 9, 0, [], none),
  (22, .iload_n 1, 1, 0, 0, 0, [], none),
  (23, .iaload, 1, 0, 0, 0, [], none),
  (24, .iaload, 1, 0, 0, 0, [], none),
  (25, .iconst 1, 1, 0, 0, 0, [], none),
  (26, .iadd, 1, 0, 0, 0, [], none),
  (27, .ireturn, 1, 0, 0, 0, [], none)]
set_option maxRecDepth 100000 in
theorem kX7_rank : ab_def_ok mX7_rank rX7_rank := ⟨ab_mok_of 728 105 726 727 (by decide +kernel), [0, 312, 0, 0, 0, 0, 0, 0, 0, 309, 0, 312, 0, 0, 0, 0, 0, 0], by decide +kernel⟩
set_option maxRecDepth 100000 in
theorem vX7_rank_0 {x : ab_Cx} {d mc ms : Nat} {Post : Option ab_V → List ab_Ob → Prop} (hx : ab_At x mX7_rank d mc ms Post) (a1 : Int) (w0 : ab_Ob) (kc ks : Nat)
    (h : ((0 ≤ a1 ∧ a1 < (w0.2 9).1) ∧ ((¬ ((w0.2 9).2 a1) = (-1) → ((0 ≤ a1 ∧ a1 < (w0.2 9).1) ∧ ((0 ≤ ((w0.2 9).2 a1) ∧ ((w0.2 9).2 a1) < (w0.2 8).1) ∧ ((-2147483648 ≤ ((w0.2 8).2 ((w0.2 9).2 a1)) + 1 ∧ ((w0.2 8).2 ((w0.2 9).2 a1)) + 1 ≤ 2147483647) ∧ Post (some (ab_I (((w0.2 8).2 ((w0.2 9).2 a1)) + 1))) [w0])))) ∧ (((w0.2 9).2 a1) = (-1) → Post (some (ab_I 0)) [w0])))) :
    ab_J x 0 [some (ab_O 0), some (ab_I a1)] [] [w0] kc ks := ab_go hx kX7_rank.2 20 [] 0 h
def mX7_noteOver : ab_M := ((yX7_noteOver, cX7_noteOver, 2, (some .int)), ([7], [(0, 0)], [false], false, false, 0), (false, 7, 1))
def rX7_noteOver : List ab_R := [(0, .aload_n 0, 1, 0, 0, 0, [], none),
  (1, .getfield 40, 3, 7, 9, 0, [], none),
  (4, .iload_n 1, 1, 0, 0, 0, [], none),
  (5, .iaload, 1, 0, 0, 0, [], none),
  (6, .iconst (-1), 1, 0, 0, 0, [], none),
  (7, .if_icmp .ne 8, 3, 0, 0, 0, [15], none),
  (10, .bipush (-2), 2, 0, 0, 0, [], none),
  (12, .goto 14, 3, 0, 0, 0, [26], none),
  (15, .aload_n 0, 1, 0, 0, 0, [], none),
  (16, .getfield 31, 3, 7, 6, 0, [], none),
  (19, .aload_n 0, 1, 0, 0, 0, [], none),
  (20, .getfield 40, 3, 7, 9, 0, [], none),
  (23, .iload_n 1, 1, 0, 0, 0, [], none),
  (24, .iaload, 1, 0, 0, 0, [], none),
  (25, .iaload, 1, 0, 0, 0, [], none),
  (26, .ireturn, 1, 0, 0, 0, [], none)]
set_option maxRecDepth 100000 in
theorem kX7_noteOver : ab_def_ok mX7_noteOver rX7_noteOver := ⟨ab_mok_of 905 105 903 904 (by decide +kernel), [0, 312, 0, 0, 0, 0, 0, 0, 0, 304, 0, 312, 0, 0, 0, 0], by decide +kernel⟩
set_option maxRecDepth 100000 in
theorem vX7_noteOver_0 {x : ab_Cx} {d mc ms : Nat} {Post : Option ab_V → List ab_Ob → Prop} (hx : ab_At x mX7_noteOver d mc ms Post) (a1 : Int) (w0 : ab_Ob) (kc ks : Nat)
    (h : ((0 ≤ a1 ∧ a1 < (w0.2 9).1) ∧ ((¬ ((w0.2 9).2 a1) = (-1) → ((0 ≤ a1 ∧ a1 < (w0.2 9).1) ∧ ((0 ≤ ((w0.2 9).2 a1) ∧ ((w0.2 9).2 a1) < (w0.2 6).1) ∧ Post (some (ab_I ((w0.2 6).2 ((w0.2 9).2 a1)))) [w0]))) ∧ (((w0.2 9).2 a1) = (-1) → Post (some (ab_I (-2))) [w0])))) :
    ab_J x 0 [some (ab_O 0), some (ab_I a1)] [] [w0] kc ks := ab_go hx kX7_noteOver.2 18 [] 0 h
def mX7_partFirst : ab_M := ((yX7_partFirst, cX7_partFirst, 3, (some .int)), ([7], [(0, 0)], [false], false, false, 0), (false, 7, 1))
def rX7_partFirst : List ab_R := [(0, .aload_n 0, 1, 0, 0, 0, [], none),
  (1, .getfield 40, 3, 7, 9, 0, [], none),
  (4, .iload_n 1, 1, 0, 0, 0, [], none),
  (5, .iaload, 1, 0, 0, 0, [], none),
  (6, .istore_n 2, 1, 0, 0, 0, [], none),
  (7, .iload_n 2, 1, 0, 0, 0, [], none),
  (8, .iconst (-1), 1, 0, 0, 0, [], none),
  (9, .if_icmp .ne 8, 3, 0, 0, 0, [17], none),
  (12, .aload_n 0, 1, 0, 0, 0, [], none),
  (13, .getfield 9, 3, 7, 0, 0, [], none),
  (16, .ireturn, 1, 0, 0, 0, [], none),
  (17, .iload_n 1, 1, 0, 0, 0, [], none),
  (18, .aload_n 0, 1, 0, 0, 0, [], none),
  (19, .getfield 28, 3, 7, 5, 0, [], none),
  (22, .iload_n 2, 1, 0, 0, 0, [], none),
  (23, .iaload, 1, 0, 0, 0, [], none),
  (24, .if_icmp .gt 12, 3, 0, 0, 0, [36], none),
  (27, .aload_n 0, 1, 0, 0, 0, [], none),
  (28, .getfield 21, 3, 7, 3, 0, [], none),
  (31, .iload_n 2, 1, 0, 0, 0, [], none),
  (32, .iaload, 1, 0, 0, 0, [], none),
  (33, .goto 11, 3, 0, 0, 0, [44], none),
  (36, .aload_n 0, 1, 0, 0, 0, [], none),
  (37, .getfield 28, 3, 7, 5, 0, [], none),
  (40, .iload_n 2, 1, 0, 0, 0, [], none),
  (41, .iaload, 1, 0, 0, 0, [], none),
  (42, .iconst 1, 1, 0, 0, 0, [], none),
  (43, .iadd, 1, 0, 0, 0, [], none),
  (44, .ireturn, 1, 0, 0, 0, [], none)]
set_option maxRecDepth 100000 in
theorem kX7_partFirst : ab_def_ok mX7_partFirst rX7_partFirst := ⟨ab_mok_of 897 105 895 896 (by decide +kernel), [0, 312, 0, 0, 0, 0, 0, 0, 0, 291, 0, 0, 0, 302, 0, 0, 0, 0, 296, 0, 0, 0, 0, 302, 0, 0, 0, 0, 0], by decide +kernel⟩
set_option maxRecDepth 100000 in
theorem vX7_partFirst_0 {x : ab_Cx} {d mc ms : Nat} {Post : Option ab_V → List ab_Ob → Prop} (hx : ab_At x mX7_partFirst d mc ms Post) (a1 : Int) (w0 : ab_Ob) (kc ks : Nat)
    (h : ((0 ≤ a1 ∧ a1 < (w0.2 9).1) ∧ ((¬ ((w0.2 9).2 a1) = (-1) → ((0 ≤ ((w0.2 9).2 a1) ∧ ((w0.2 9).2 a1) < (w0.2 5).1) ∧ ((((w0.2 5).2 ((w0.2 9).2 a1)) < a1 → ((0 ≤ ((w0.2 9).2 a1) ∧ ((w0.2 9).2 a1) < (w0.2 5).1) ∧ ((-2147483648 ≤ ((w0.2 5).2 ((w0.2 9).2 a1)) + 1 ∧ ((w0.2 5).2 ((w0.2 9).2 a1)) + 1 ≤ 2147483647) ∧ Post (some (ab_I (((w0.2 5).2 ((w0.2 9).2 a1)) + 1))) [w0]))) ∧ (¬ ((w0.2 5).2 ((w0.2 9).2 a1)) < a1 → ((0 ≤ ((w0.2 9).2 a1) ∧ ((w0.2 9).2 a1) < (w0.2 3).1) ∧ Post (some (ab_I ((w0.2 3).2 ((w0.2 9).2 a1)))) [w0]))))) ∧ (((w0.2 9).2 a1) = (-1) → Post (some (ab_I (w0.1 0))) [w0])))) :
    ab_J x 0 [some (ab_O 0), some (ab_I a1), none] [] [w0] kc ks := ab_go hx kX7_partFirst.2 25 [] 0 h
def mX7_partLast : ab_M := ((yX7_partLast, cX7_partLast, 3, (some .int)), ([7], [(0, 0)], [false], false, false, 0), (false, 7, 1))
def rX7_partLast : List ab_R := [(0, .aload_n 0, 1, 0, 0, 0, [], none),
  (1, .getfield 40, 3, 7, 9, 0, [], none),
  (4, .iload_n 1, 1, 0, 0, 0, [], none),
  (5, .iaload, 1, 0, 0, 0, [], none),
  (6, .istore_n 2, 1, 0, 0, 0, [], none),
  (7, .iload_n 2, 1, 0, 0, 0, [], none),
  (8, .iconst (-1), 1, 0, 0, 0, [], none),
  (9, .if_icmp .ne 8, 3, 0, 0, 0, [17], none),
  (12, .aload_n 0, 1, 0, 0, 0, [], none),
  (13, .getfield 15, 3, 7, 1, 0, [], none),
  (16, .ireturn, 1, 0, 0, 0, [], none),
  (17, .iload_n 1, 1, 0, 0, 0, [], none),
  (18, .aload_n 0, 1, 0, 0, 0, [], none),
  (19, .getfield 28, 3, 7, 5, 0, [], none),
  (22, .iload_n 2, 1, 0, 0, 0, [], none),
  (23, .iaload, 1, 0, 0, 0, [], none),
  (24, .if_icmp .gt 12, 3, 0, 0, 0, [36], none),
  (27, .aload_n 0, 1, 0, 0, 0, [], none),
  (28, .getfield 28, 3, 7, 5, 0, [], none),
  (31, .iload_n 2, 1, 0, 0, 0, [], none),
  (32, .iaload, 1, 0, 0, 0, [], none),
  (33, .goto 9, 3, 0, 0, 0, [42], none),
  (36, .aload_n 0, 1, 0, 0, 0, [], none),
  (37, .getfield 25, 3, 7, 4, 0, [], none),
  (40, .iload_n 2, 1, 0, 0, 0, [], none),
  (41, .iaload, 1, 0, 0, 0, [], none),
  (42, .ireturn, 1, 0, 0, 0, [], none)]
set_option maxRecDepth 100000 in
theorem kX7_partLast : ab_def_ok mX7_partLast rX7_partLast := ⟨ab_mok_of 901 105 899 900 (by decide +kernel), [0, 312, 0, 0, 0, 0, 0, 0, 0, 292, 0, 0, 0, 302, 0, 0, 0, 0, 302, 0, 0, 0, 0, 299, 0, 0, 0], by decide +kernel⟩
set_option maxRecDepth 100000 in
theorem vX7_partLast_0 {x : ab_Cx} {d mc ms : Nat} {Post : Option ab_V → List ab_Ob → Prop} (hx : ab_At x mX7_partLast d mc ms Post) (a1 : Int) (w0 : ab_Ob) (kc ks : Nat)
    (h : ((0 ≤ a1 ∧ a1 < (w0.2 9).1) ∧ ((¬ ((w0.2 9).2 a1) = (-1) → ((0 ≤ ((w0.2 9).2 a1) ∧ ((w0.2 9).2 a1) < (w0.2 5).1) ∧ ((((w0.2 5).2 ((w0.2 9).2 a1)) < a1 → ((0 ≤ ((w0.2 9).2 a1) ∧ ((w0.2 9).2 a1) < (w0.2 4).1) ∧ Post (some (ab_I ((w0.2 4).2 ((w0.2 9).2 a1)))) [w0])) ∧ (¬ ((w0.2 5).2 ((w0.2 9).2 a1)) < a1 → ((0 ≤ ((w0.2 9).2 a1) ∧ ((w0.2 9).2 a1) < (w0.2 5).1) ∧ Post (some (ab_I ((w0.2 5).2 ((w0.2 9).2 a1)))) [w0]))))) ∧ (((w0.2 9).2 a1) = (-1) → Post (some (ab_I (w0.1 1))) [w0])))) :
    ab_J x 0 [some (ab_O 0), some (ab_I a1), none] [] [w0] kc ks := ab_go hx kX7_partLast.2 24 [] 0 h
def mX7_notesUnder : ab_M := ((yX7_notesUnder, cX7_notesUnder, 2, (some .int)), ([7], [(0, 0)], [false], false, false, 0), (false, 7, 1))
def rX7_notesUnder : List ab_R := [(0, .aload_n 0, 1, 0, 0, 0, [], none),
  (1, .iload_n 1, 1, 0, 0, 0, [], none),
  (2, .invokevirtual 94, 3, 0, 0, 0, [], some mX7_partLast),
  (5, .aload_n 0, 1, 0, 0, 0, [], none),
  (6, .iload_n 1, 1, 0, 0, 0, [], none),
  (7, .invokevirtual 97, 3, 0, 0, 0, [], some mX7_partFirst),
  (10, .isub, 1, 0, 0, 0, [], none),
  (11, .ireturn, 1, 0, 0, 0, [], none)]
set_option maxRecDepth 100000 in
theorem kX7_notesUnder : ab_def_ok mX7_notesUnder rX7_notesUnder := ⟨ab_mok_of 940 105 938 939 (by decide +kernel), [0, 0, 941, 0, 0, 942, 0, 0], by decide +kernel⟩
set_option maxRecDepth 100000 in
theorem vX7_notesUnder_0 {x : ab_Cx} {d mc ms : Nat} {Post : Option ab_V → List ab_Ob → Prop} (hx : ab_At x mX7_notesUnder d mc ms Post) (a1 : Int) (w0 : ab_Ob) (kc ks : Nat)
    (h : (∃ Q1 : Option ab_V → List ab_Ob → Prop, ab_Ct d 0 0 mX7_partLast [ab_O 0, ab_I a1] [w0] Q1 ∧ (∀ r2 : Int, Q1 (some (ab_I r2)) [w0] → (∃ Q3 : Option ab_V → List ab_Ob → Prop, ab_Ct d 0 0 mX7_partFirst [ab_O 0, ab_I a1] [w0] Q3 ∧ (∀ r4 : Int, Q3 (some (ab_I r4)) [w0] → ((-2147483648 ≤ r2 - r4 ∧ r2 - r4 ≤ 2147483647) ∧ Post (some (ab_I (r2 - r4))) [w0])))))) :
    ab_J x 0 [some (ab_O 0), some (ab_I a1)] [] [w0] kc ks := ab_go hx kX7_notesUnder.2 12 [] 0 h
def mX7_headOverBoth : ab_M := ((yX7_headOverBoth, cX7_headOverBoth, 7, (some .int)), ([7], [(0, 0)], [false], false, false, 0), (false, 7, 2))
def rX7_headOverBoth : List ab_R := [(0, .iload_n 1, 1, 0, 0, 0, [], none),
  (1, .istore_n 3, 1, 0, 0, 0, [], none),
  (2, .iload_n 1, 1, 0, 0, 0, [], none),
  (3, .iload_n 2, 1, 0, 0, 0, [], none),
  (4, .if_icmp .eq 67, 3, 0, 0, 0, [71], none),
  (7, .iload_n 1, 1, 0, 0, 0, [], none),
  (8, .iload_n 2, 1, 0, 0, 0, [], none),
  (9, .invokestatic 100, 3, 0, 0, 11, [], none),
  (12, .istore 4, 2, 0, 0, 0, [], none),
  (14, .iload_n 1, 1, 0, 0, 0, [], none),
  (15, .iload_n 2, 1, 0, 0, 0, [], none),
  (16, .invokestatic 89, 3, 0, 0, 10, [], none),
  (19, .istore 5, 2, 0, 0, 0, [], none),
  (21, .iconst 0, 1, 0, 0, 0, [], none),
  (22, .istore 6, 2, 0, 0, 0, [], none),
  (24, .iload 6, 2, 0, 0, 0, [], none),
  (26, .aload_n 0, 1, 0, 0, 0, [], none),
  (27, .getfield 18, 3, 7, 2, 0, [], none),
  (30, .if_icmp .ge 41, 3, 0, 0, 0, [71], none),
  (33, .aload_n 0, 1, 0, 0, 0, [], none),
  (34, .getfield 21, 3, 7, 3, 0, [], none),
  (37, .iload 6, 2, 0, 0, 0, [], none),
  (39, .iaload, 1, 0, 0, 0, [], none),
  (40, .iload 4, 2, 0, 0, 0, [], none),
  (42, .if_icmp .gt 23, 3, 0, 0, 0, [65], none),
  (45, .iload 5, 2, 0, 0, 0, [], none),
  (47, .aload_n 0, 1, 0, 0, 0, [], none),
  (48, .getfield 25, 3, 7, 4, 0, [], none),
  (51, .iload 6, 2, 0, 0, 0, [], none),
  (53, .iaload, 1, 0, 0, 0, [], none),
  (54, .if_icmp .gt 11, 3, 0, 0, 0, [65], none),
  (57, .aload_n 0, 1, 0, 0, 0, [], none),
  (58, .getfield 31, 3, 7, 6, 0, [], none),
  (61, .iload 6, 2, 0, 0, 0, [], none),
  (63, .iaload, 1, 0, 0, 0, [], none),
  (64, .istore_n 3, 1, 0, 0, 0, [], none),
  (65, .iinc 6 1, 3, 0, 0, 0, [], none),
  (68, .goto (-44), 3, 0, 0, 0, [24], none),
  (71, .iload_n 3, 1, 0, 0, 0, [], none),
  (72, .ireturn, 1, 0, 0, 0, [], none)]
set_option maxRecDepth 100000 in
theorem kX7_headOverBoth : ab_def_ok mX7_headOverBoth rX7_headOverBoth := ⟨ab_mok_of 931 105 929 930 (by decide +kernel), [0, 0, 0, 0, 0, 0, 0, 932, 0, 0, 0, 862, 0, 0, 0, 0, 0, 293, 0, 0, 296, 0, 0, 0, 0, 0, 0, 299, 0, 0, 0, 0, 304, 0, 0, 0, 0, 0, 0, 0], by decide +kernel⟩
set_option maxRecDepth 100000 in
theorem vX7_headOverBoth_0 {x : ab_Cx} {d mc ms : Nat} {Post : Option ab_V → List ab_Ob → Prop} (hx : ab_At x mX7_headOverBoth d mc ms Post) (a1 a2 : Int) (w0 : ab_Ob) (kc ks : Nat)
    (h : ((a1 = a2 → Post (some (ab_I a1)) [w0]) ∧ (¬ a1 = a2 → ab_J x 24 [some (ab_O 0), none, none, some (ab_I a1), some (ab_I (if a2 < a1 then a2 else a1)), some (ab_I (if a1 < a2 then a2 else a1)), some (ab_I 0)] [] [w0] kc ks))) :
    ab_J x 0 [some (ab_O 0), some (ab_I a1), some (ab_I a2), none, none, none, none] [] [w0] kc ks := ab_go hx kX7_headOverBoth.2 20 [(24, [true, false, false, true, true, true, true])] 0 h
set_option maxRecDepth 100000 in
theorem vX7_headOverBoth_24 {x : ab_Cx} {d mc ms : Nat} {Post : Option ab_V → List ab_Ob → Prop} (hx : ab_At x mX7_headOverBoth d mc ms Post) (l3 l4 l5 l6 : Int) (w0 : ab_Ob) (kc ks : Nat)
    (h : (((w0.1 2) ≤ l6 → Post (some (ab_I l3)) [w0]) ∧ (¬ (w0.1 2) ≤ l6 → ((0 ≤ l6 ∧ l6 < (w0.2 3).1) ∧ ((l4 < ((w0.2 3).2 l6) → ((-2147483648 ≤ l6 + 1 ∧ l6 + 1 ≤ 2147483647) ∧ ab_J x 24 [some (ab_O 0), none, none, some (ab_I l3), some (ab_I l4), some (ab_I l5), some (ab_I (l6 + 1))] [] [w0] kc ks)) ∧ (¬ l4 < ((w0.2 3).2 l6) → ((0 ≤ l6 ∧ l6 < (w0.2 4).1) ∧ ((((w0.2 4).2 l6) < l5 → ((-2147483648 ≤ l6 + 1 ∧ l6 + 1 ≤ 2147483647) ∧ ab_J x 24 [some (ab_O 0), none, none, some (ab_I l3), some (ab_I l4), some (ab_I l5), some (ab_I (l6 + 1))] [] [w0] kc ks)) ∧ (¬ ((w0.2 4).2 l6) < l5 → ((0 ≤ l6 ∧ l6 < (w0.2 6).1) ∧ ((-2147483648 ≤ l6 + 1 ∧ l6 + 1 ≤ 2147483647) ∧ ab_J x 24 [some (ab_O 0), none, none, some (ab_I ((w0.2 6).2 l6)), some (ab_I l4), some (ab_I l5), some (ab_I (l6 + 1))] [] [w0] kc ks))))))))))) :
    ab_J x 24 [some (ab_O 0), none, none, some (ab_I l3), some (ab_I l4), some (ab_I l5), some (ab_I l6)] [] [w0] kc ks := ab_go hx kX7_headOverBoth.2 28 [(24, [true, false, false, true, true, true, true])] 24 h
def mX7_isLike : ab_M := ((yX7_isLike, cX7_isLike, 4, (some .boolean)), ([7, 7], [(0, 0), (1, 0)], [false, false], false, false, 0), (false, 7, 2))
def rX7_isLike : List ab_R := [(0, .aload_n 0, 1, 0, 0, 0, [], none),
  (1, .getfield 18, 3, 7, 2, 0, [], none),
  (4, .aload_n 1, 1, 0, 0, 0, [], none),
  (5, .getfield 18, 3, 7, 2, 0, [], none),
  (8, .if_icmp .eq 5, 3, 0, 0, 0, [13], none),
  (11, .iconst 0, 1, 0, 0, 0, [], none),
  (12, .ireturn, 1, 0, 0, 0, [], none),
  (13, .iconst 0, 1, 0, 0, 0, [], none),
  (14, .istore_n 3, 1, 0, 0, 0, [], none),
  (15, .iload_n 3, 1, 0, 0, 0, [], none),
  (16, .aload_n 0, 1, 0, 0, 0, [], none),
  (17, .getfield 18, 3, 7, 2, 0, [], none),
  (20, .if_icmp .ge 45, 3, 0, 0, 0, [65], none),
  (23, .aload_n 0, 1, 0, 0, 0, [], none),
  (24, .getfield 28, 3, 7, 5, 0, [], none),
  (27, .iload_n 3, 1, 0, 0, 0, [], none),
  (28, .iaload, 1, 0, 0, 0, [], none),
  (29, .iload_n 2, 1, 0, 0, 0, [], none),
  (30, .iadd, 1, 0, 0, 0, [], none),
  (31, .aload_n 1, 1, 0, 0, 0, [], none),
  (32, .getfield 28, 3, 7, 5, 0, [], none),
  (35, .iload_n 3, 1, 0, 0, 0, [], none),
  (36, .iaload, 1, 0, 0, 0, [], none),
  (37, .if_icmp .ne 20, 3, 0, 0, 0, [57], none),
  (40, .aload_n 0, 1, 0, 0, 0, [], none),
  (41, .getfield 31, 3, 7, 6, 0, [], none),
  (44, .iload_n 3, 1, 0, 0, 0, [], none),
  (45, .iaload, 1, 0, 0, 0, [], none),
  (46, .iload_n 2, 1, 0, 0, 0, [], none),
  (47, .iadd, 1, 0, 0, 0, [], none),
  (48, .aload_n 1, 1, 0, 0, 0, [], none),
  (49, .getfield 31, 3, 7, 6, 0, [], none),
  (52, .iload_n 3, 1, 0, 0, 0, [], none),
  (53, .iaload, 1, 0, 0, 0, [], none),
  (54, .if_icmp .eq 5, 3, 0, 0, 0, [59], none),
  (57, .iconst 0, 1, 0, 0, 0, [], none),
  (58, .ireturn, 1, 0, 0, 0, [], none),
  (59, .iinc 3 1, 3, 0, 0, 0, [], none),
  (62, .goto (-47), 3, 0, 0, 0, [15], none),
  (65, .iconst 1, 1, 0, 0, 0, [], none),
  (66, .ireturn, 1, 0, 0, 0, [], none)]
set_option maxRecDepth 100000 in
theorem kX7_isLike : ab_def_ok mX7_isLike rX7_isLike := ⟨ab_mok_of 1021 105 1019 1020 (by decide +kernel), [0, 293, 0, 293, 0, 0, 0, 0, 0, 0, 0, 293, 0, 0, 302, 0, 0, 0, 0, 0, 302, 0, 0, 0, 0, 304, 0, 0, 0, 0, 0, 304, 0, 0, 0, 0, 0, 0, 0, 0, 0], by decide +kernel⟩
set_option maxRecDepth 100000 in
theorem vX7_isLike_0 {x : ab_Cx} {d mc ms : Nat} {Post : Option ab_V → List ab_Ob → Prop} (hx : ab_At x mX7_isLike d mc ms Post) (a2 : Int) (w0 w1 : ab_Ob) (kc ks : Nat)
    (h : (((w0.1 2) = (w1.1 2) → ab_J x 15 [some (ab_O 0), some (ab_O 1), some (ab_I a2), some (ab_I 0)] [] [w0, w1] kc ks) ∧ (¬ (w0.1 2) = (w1.1 2) → (((0 : Int) = 0 ∨ (0 : Int) = 1) ∧ Post (some (ab_I 0)) [w0, w1])))) :
    ab_J x 0 [some (ab_O 0), some (ab_O 1), some (ab_I a2), none] [] [w0, w1] kc ks := ab_go hx kX7_isLike.2 12 [(15, [true, true, true, true])] 0 h
set_option maxRecDepth 100000 in
theorem vX7_isLike_15 {x : ab_Cx} {d mc ms : Nat} {Post : Option ab_V → List ab_Ob → Prop} (hx : ab_At x mX7_isLike d mc ms Post) (l2 l3 : Int) (w0 w1 : ab_Ob) (kc ks : Nat)
    (h : (((w0.1 2) ≤ l3 → (((1 : Int) = 0 ∨ (1 : Int) = 1) ∧ Post (some (ab_I 1)) [w0, w1])) ∧ (¬ (w0.1 2) ≤ l3 → ((0 ≤ l3 ∧ l3 < (w0.2 5).1) ∧ ((-2147483648 ≤ ((w0.2 5).2 l3) + l2 ∧ ((w0.2 5).2 l3) + l2 ≤ 2147483647) ∧ ((0 ≤ l3 ∧ l3 < (w1.2 5).1) ∧ ((¬ (((w0.2 5).2 l3) + l2) = ((w1.2 5).2 l3) → (((0 : Int) = 0 ∨ (0 : Int) = 1) ∧ Post (some (ab_I 0)) [w0, w1])) ∧ ((((w0.2 5).2 l3) + l2) = ((w1.2 5).2 l3) → ((0 ≤ l3 ∧ l3 < (w0.2 6).1) ∧ ((-2147483648 ≤ ((w0.2 6).2 l3) + l2 ∧ ((w0.2 6).2 l3) + l2 ≤ 2147483647) ∧ ((0 ≤ l3 ∧ l3 < (w1.2 6).1) ∧ (((((w0.2 6).2 l3) + l2) = ((w1.2 6).2 l3) → ((-2147483648 ≤ l3 + 1 ∧ l3 + 1 ≤ 2147483647) ∧ ab_J x 15 [some (ab_O 0), some (ab_O 1), some (ab_I l2), some (ab_I (l3 + 1))] [] [w0, w1] kc ks)) ∧ (¬ (((w0.2 6).2 l3) + l2) = ((w1.2 6).2 l3) → (((0 : Int) = 0 ∨ (0 : Int) = 1) ∧ Post (some (ab_I 0)) [w0, w1])))))))))))))) :
    ab_J x 15 [some (ab_O 0), some (ab_O 1), some (ab_I l2), some (ab_I l3)] [] [w0, w1] kc ks := ab_go hx kX7_isLike.2 33 [(15, [true, true, true, true])] 15 h
def mX7_joiningOf : ab_M := ((yX7_joiningOf, cX7_joiningOf, 4, (some .int)), ([7], [(0, 0)], [false], false, false, 0), (false, 7, 2))
def rX7_joiningOf : List ab_R := [(0, .iconst 0, 1, 0, 0, 0, [], none),
  (1, .istore_n 3, 1, 0, 0, 0, [], none),
  (2, .iload_n 3, 1, 0, 0, 0, [], none),
  (3, .aload_n 0, 1, 0, 0, 0, [], none),
  (4, .getfield 18, 3, 7, 2, 0, [], none),
  (7, .if_icmp .ge 31, 3, 0, 0, 0, [38], none),
  (10, .aload_n 0, 1, 0, 0, 0, [], none),
  (11, .getfield 21, 3, 7, 3, 0, [], none),
  (14, .iload_n 3, 1, 0, 0, 0, [], none),
  (15, .iaload, 1, 0, 0, 0, [], none),
  (16, .iload_n 1, 1, 0, 0, 0, [], none),
  (17, .if_icmp .ne 15, 3, 0, 0, 0, [32], none),
  (20, .aload_n 0, 1, 0, 0, 0, [], none),
  (21, .getfield 25, 3, 7, 4, 0, [], none),
  (24, .iload_n 3, 1, 0, 0, 0, [], none),
  (25, .iaload, 1, 0, 0, 0, [], none),
  (26, .iload_n 2, 1, 0, 0, 0, [], none),
  (27, .if_icmp .ne 5, 3, 0, 0, 0, [32], none),
  (30, .iload_n 3, 1, 0, 0, 0, [], none),
  (31, .ireturn, 1, 0, 0, 0, [], none),
  (32, .iinc 3 1, 3, 0, 0, 0, [], none),
  (35, .goto (-33), 3, 0, 0, 0, [2], none),
  (38, .iconst (-1), 1, 0, 0, 0, [], none),
  (39, .ireturn, 1, 0, 0, 0, [], none)]
set_option maxRecDepth 100000 in
theorem kX7_joiningOf : ab_def_ok mX7_joiningOf rX7_joiningOf := ⟨ab_mok_of 1041 105 1040 39 (by decide +kernel), [0, 0, 0, 0, 293, 0, 0, 296, 0, 0, 0, 0, 0, 299, 0, 0, 0, 0, 0, 0, 0, 0, 0, 0], by decide +kernel⟩
set_option maxRecDepth 100000 in
theorem vX7_joiningOf_0 {x : ab_Cx} {d mc ms : Nat} {Post : Option ab_V → List ab_Ob → Prop} (hx : ab_At x mX7_joiningOf d mc ms Post) (a1 a2 : Int) (w0 : ab_Ob) (kc ks : Nat)
    (h : ab_J x 2 [some (ab_O 0), some (ab_I a1), some (ab_I a2), some (ab_I 0)] [] [w0] kc ks) :
    ab_J x 0 [some (ab_O 0), some (ab_I a1), some (ab_I a2), none] [] [w0] kc ks := ab_go hx kX7_joiningOf.2 7 [(2, [true, true, true, true])] 0 h
set_option maxRecDepth 100000 in
theorem vX7_joiningOf_2 {x : ab_Cx} {d mc ms : Nat} {Post : Option ab_V → List ab_Ob → Prop} (hx : ab_At x mX7_joiningOf d mc ms Post) (l1 l2 l3 : Int) (w0 : ab_Ob) (kc ks : Nat)
    (h : (((w0.1 2) ≤ l3 → Post (some (ab_I (-1))) [w0]) ∧ (¬ (w0.1 2) ≤ l3 → ((0 ≤ l3 ∧ l3 < (w0.2 3).1) ∧ ((¬ ((w0.2 3).2 l3) = l1 → ((-2147483648 ≤ l3 + 1 ∧ l3 + 1 ≤ 2147483647) ∧ ab_J x 2 [some (ab_O 0), some (ab_I l1), some (ab_I l2), some (ab_I (l3 + 1))] [] [w0] kc ks)) ∧ (((w0.2 3).2 l3) = l1 → ((0 ≤ l3 ∧ l3 < (w0.2 4).1) ∧ ((¬ ((w0.2 4).2 l3) = l2 → ((-2147483648 ≤ l3 + 1 ∧ l3 + 1 ≤ 2147483647) ∧ ab_J x 2 [some (ab_O 0), some (ab_I l1), some (ab_I l2), some (ab_I (l3 + 1))] [] [w0] kc ks)) ∧ (((w0.2 4).2 l3) = l2 → Post (some (ab_I l3)) [w0]))))))))) :
    ab_J x 2 [some (ab_O 0), some (ab_I l1), some (ab_I l2), some (ab_I l3)] [] [w0] kc ks := ab_go hx kX7_joiningOf.2 23 [(2, [true, true, true, true])] 2 h
def mX7_spansNotIn : ab_M := ((yX7_spansNotIn, cX7_spansNotIn, 4, (some .int)), ([7, 7], [(0, 0), (1, 0)], [false, false], false, false, 0), (false, 7, 1))
def rX7_spansNotIn : List ab_R := [(0, .iconst 0, 1, 0, 0, 0, [], none),
  (1, .istore_n 2, 1, 0, 0, 0, [], none),
  (2, .iconst 0, 1, 0, 0, 0, [], none),
  (3, .istore_n 3, 1, 0, 0, 0, [], none),
  (4, .iload_n 3, 1, 0, 0, 0, [], none),
  (5, .aload_n 0, 1, 0, 0, 0, [], none),
  (6, .getfield 18, 3, 7, 2, 0, [], none),
  (9, .if_icmp .ge 37, 3, 0, 0, 0, [46], none),
  (12, .iload_n 2, 1, 0, 0, 0, [], none),
  (13, .aload_n 1, 1, 0, 0, 0, [], none),
  (14, .aload_n 0, 1, 0, 0, 0, [], none),
  (15, .getfield 21, 3, 7, 3, 0, [], none),
  (18, .iload_n 3, 1, 0, 0, 0, [], none),
  (19, .iaload, 1, 0, 0, 0, [], none),
  (20, .aload_n 0, 1, 0, 0, 0, [], none),
  (21, .getfield 25, 3, 7, 4, 0, [], none),
  (24, .iload_n 3, 1, 0, 0, 0, [], none),
  (25, .iaload, 1, 0, 0, 0, [], none),
  (26, .invokevirtual 103, 3, 0, 0, 0, [], some mX7_joiningOf),
  (29, .iconst (-1), 1, 0, 0, 0, [], none),
  (30, .if_icmp .ne 7, 3, 0, 0, 0, [37], none),
  (33, .iconst 1, 1, 0, 0, 0, [], none),
  (34, .goto 4, 3, 0, 0, 0, [38], none),
  (37, .iconst 0, 1, 0, 0, 0, [], none),
  (38, .iadd, 1, 0, 0, 0, [], none),
  (39, .istore_n 2, 1, 0, 0, 0, [], none),
  (40, .iinc 3 1, 3, 0, 0, 0, [], none),
  (43, .goto (-39), 3, 0, 0, 0, [4], none),
  (46, .iload_n 2, 1, 0, 0, 0, [], none),
  (47, .ireturn, 1, 0, 0, 0, [], none)]
set_option maxRecDepth 100000 in
theorem kX7_spansNotIn : ab_def_ok mX7_spansNotIn rX7_spansNotIn := ⟨ab_mok_of 1037 105 1035 1036 (by decide +kernel), [0, 0, 0, 0, 0, 0, 293, 0, 0, 0, 0, 296, 0, 0, 0, 299, 0, 0, 1038, 0, 0, 0, 0, 0, 0, 0, 0, 0, 0, 0], by decide +kernel⟩
set_option maxRecDepth 100000 in
theorem vX7_spansNotIn_0 {x : ab_Cx} {d mc ms : Nat} {Post : Option ab_V → List ab_Ob → Prop} (hx : ab_At x mX7_spansNotIn d mc ms Post) (w0 w1 : ab_Ob) (kc ks : Nat)
    (h : ab_J x 4 [some (ab_O 0), some (ab_O 1), some (ab_I 0), some (ab_I 0)] [] [w0, w1] kc ks) :
    ab_J x 0 [some (ab_O 0), some (ab_O 1), none, none] [] [w0, w1] kc ks := ab_go hx kX7_spansNotIn.2 9 [(4, [true, true, true, true])] 0 h
set_option maxRecDepth 100000 in
theorem vX7_spansNotIn_4 {x : ab_Cx} {d mc ms : Nat} {Post : Option ab_V → List ab_Ob → Prop} (hx : ab_At x mX7_spansNotIn d mc ms Post) (l2 l3 : Int) (w0 w1 : ab_Ob) (kc ks : Nat)
    (h : (((w0.1 2) ≤ l3 → Post (some (ab_I l2)) [w0, w1]) ∧ (¬ (w0.1 2) ≤ l3 → ((0 ≤ l3 ∧ l3 < (w0.2 3).1) ∧ ((0 ≤ l3 ∧ l3 < (w0.2 4).1) ∧ (∃ Q1 : Option ab_V → List ab_Ob → Prop, ab_Ct d 0 0 mX7_joiningOf [ab_O 0, ab_I ((w0.2 3).2 l3), ab_I ((w0.2 4).2 l3)] [w1] Q1 ∧ (∀ r2 : Int, Q1 (some (ab_I r2)) [w1] → ((¬ r2 = (-1) → ((-2147483648 ≤ l2 + 0 ∧ l2 + 0 ≤ 2147483647) ∧ ((-2147483648 ≤ l3 + 1 ∧ l3 + 1 ≤ 2147483647) ∧ ab_J x 4 [some (ab_O 0), some (ab_O 1), some (ab_I (l2 + 0)), some (ab_I (l3 + 1))] [] [w0, w1] kc ks))) ∧ (r2 = (-1) → ((-2147483648 ≤ l2 + 1 ∧ l2 + 1 ≤ 2147483647) ∧ ((-2147483648 ≤ l3 + 1 ∧ l3 + 1 ≤ 2147483647) ∧ ab_J x 4 [some (ab_O 0), some (ab_O 1), some (ab_I (l2 + 1)), some (ab_I (l3 + 1))] [] [w0, w1] kc ks))))))))))) :
    ab_J x 4 [some (ab_O 0), some (ab_O 1), some (ab_I l2), some (ab_I l3)] [] [w0, w1] kc ks := ab_go hx kX7_spansNotIn.2 28 [(4, [true, true, true, true])] 4 h
def mX7_headsUnlike : ab_M := ((yX7_headsUnlike, cX7_headsUnlike, 5, (some .int)), ([7, 7], [(0, 0), (1, 0)], [false, false], false, false, 0), (false, 7, 1))
def rX7_headsUnlike : List ab_R := [(0, .iconst 0, 1, 0, 0, 0, [], none),
  (1, .istore_n 2, 1, 0, 0, 0, [], none),
  (2, .iconst 0, 1, 0, 0, 0, [], none),
  (3, .istore_n 3, 1, 0, 0, 0, [], none),
  (4, .iload_n 3, 1, 0, 0, 0, [], none),
  (5, .aload_n 0, 1, 0, 0, 0, [], none),
  (6, .getfield 18, 3, 7, 2, 0, [], none),
  (9, .if_icmp .ge 57, 3, 0, 0, 0, [66], none),
  (12, .aload_n 1, 1, 0, 0, 0, [], none),
  (13, .aload_n 0, 1, 0, 0, 0, [], none),
  (14, .getfield 21, 3, 7, 3, 0, [], none),
  (17, .iload_n 3, 1, 0, 0, 0, [], none),
  (18, .iaload, 1, 0, 0, 0, [], none),
  (19, .aload_n 0, 1, 0, 0, 0, [], none),
  (20, .getfield 25, 3, 7, 4, 0, [], none),
  (23, .iload_n 3, 1, 0, 0, 0, [], none),
  (24, .iaload, 1, 0, 0, 0, [], none),
  (25, .invokevirtual 103, 3, 0, 0, 0, [], some mX7_joiningOf),
  (28, .istore 4, 2, 0, 0, 0, [], none),
  (30, .iload_n 2, 1, 0, 0, 0, [], none),
  (31, .iload 4, 2, 0, 0, 0, [], none),
  (33, .iconst (-1), 1, 0, 0, 0, [], none),
  (34, .if_icmp .eq 23, 3, 0, 0, 0, [57], none),
  (37, .aload_n 1, 1, 0, 0, 0, [], none),
  (38, .getfield 31, 3, 7, 6, 0, [], none),
  (41, .iload 4, 2, 0, 0, 0, [], none),
  (43, .iaload, 1, 0, 0, 0, [], none),
  (44, .aload_n 0, 1, 0, 0, 0, [], none),
  (45, .getfield 31, 3, 7, 6, 0, [], none),
  (48, .iload_n 3, 1, 0, 0, 0, [], none),
  (49, .iaload, 1, 0, 0, 0, [], none),
  (50, .if_icmp .eq 7, 3, 0, 0, 0, [57], none),
  (53, .iconst 1, 1, 0, 0, 0, [], none),
  (54, .goto 4, 3, 0, 0, 0, [58], none),
  (57, .iconst 0, 1, 0, 0, 0, [], none),
  (58, .iadd, 1, 0, 0, 0, [], none),
  (59, .istore_n 2, 1, 0, 0, 0, [], none),
  (60, .iinc 3 1, 3, 0, 0, 0, [], none),
  (63, .goto (-59), 3, 0, 0, 0, [4], none),
  (66, .iload_n 2, 1, 0, 0, 0, [], none),
  (67, .ireturn, 1, 0, 0, 0, [], none)]
set_option maxRecDepth 100000 in
theorem kX7_headsUnlike : ab_def_ok mX7_headsUnlike rX7_headsUnlike := ⟨ab_mok_of 1045 105 1043 1044 (by decide +kernel), [0, 0, 0, 0, 0, 0, 293, 0, 0, 0, 296, 0, 0, 0, 299, 0, 0, 1038, 0, 0, 0, 0, 0, 0, 304, 0, 0, 0, 304, 0, 0, 0, 0, 0, 0, 0, 0, 0, 0, 0, 0], by decide +kernel⟩
set_option maxRecDepth 100000 in
theorem vX7_headsUnlike_0 {x : ab_Cx} {d mc ms : Nat} {Post : Option ab_V → List ab_Ob → Prop} (hx : ab_At x mX7_headsUnlike d mc ms Post) (w0 w1 : ab_Ob) (kc ks : Nat)
    (h : ab_J x 4 [some (ab_O 0), some (ab_O 1), some (ab_I 0), some (ab_I 0), none] [] [w0, w1] kc ks) :
    ab_J x 0 [some (ab_O 0), some (ab_O 1), none, none, none] [] [w0, w1] kc ks := ab_go hx kX7_headsUnlike.2 9 [(4, [true, true, true, true, false])] 0 h
set_option maxRecDepth 100000 in
theorem vX7_headsUnlike_4 {x : ab_Cx} {d mc ms : Nat} {Post : Option ab_V → List ab_Ob → Prop} (hx : ab_At x mX7_headsUnlike d mc ms Post) (l2 l3 : Int) (w0 w1 : ab_Ob) (kc ks : Nat)
    (h : (((w0.1 2) ≤ l3 → Post (some (ab_I l2)) [w0, w1]) ∧ (¬ (w0.1 2) ≤ l3 → ((0 ≤ l3 ∧ l3 < (w0.2 3).1) ∧ ((0 ≤ l3 ∧ l3 < (w0.2 4).1) ∧ (∃ Q1 : Option ab_V → List ab_Ob → Prop, ab_Ct d 0 0 mX7_joiningOf [ab_O 0, ab_I ((w0.2 3).2 l3), ab_I ((w0.2 4).2 l3)] [w1] Q1 ∧ (∀ r2 : Int, Q1 (some (ab_I r2)) [w1] → ((r2 = (-1) → ((-2147483648 ≤ l2 + 0 ∧ l2 + 0 ≤ 2147483647) ∧ ((-2147483648 ≤ l3 + 1 ∧ l3 + 1 ≤ 2147483647) ∧ ab_J x 4 [some (ab_O 0), some (ab_O 1), some (ab_I (l2 + 0)), some (ab_I (l3 + 1)), none] [] [w0, w1] kc ks))) ∧ (¬ r2 = (-1) → ((0 ≤ r2 ∧ r2 < (w1.2 6).1) ∧ ((0 ≤ l3 ∧ l3 < (w0.2 6).1) ∧ ((((w1.2 6).2 r2) = ((w0.2 6).2 l3) → ((-2147483648 ≤ l2 + 0 ∧ l2 + 0 ≤ 2147483647) ∧ ((-2147483648 ≤ l3 + 1 ∧ l3 + 1 ≤ 2147483647) ∧ ab_J x 4 [some (ab_O 0), some (ab_O 1), some (ab_I (l2 + 0)), some (ab_I (l3 + 1)), none] [] [w0, w1] kc ks))) ∧ (¬ ((w1.2 6).2 r2) = ((w0.2 6).2 l3) → ((-2147483648 ≤ l2 + 1 ∧ l2 + 1 ≤ 2147483647) ∧ ((-2147483648 ≤ l3 + 1 ∧ l3 + 1 ≤ 2147483647) ∧ ab_J x 4 [some (ab_O 0), some (ab_O 1), some (ab_I (l2 + 1)), some (ab_I (l3 + 1)), none] [] [w0, w1] kc ks))))))))))))))) :
    ab_J x 4 [some (ab_O 0), some (ab_O 1), some (ab_I l2), some (ab_I l3), none] [] [w0, w1] kc ks := ab_go hx kX7_headsUnlike.2 39 [(4, [true, true, true, true, false])] 4 h
def mX7_ranksUnlike : ab_M := ((yX7_ranksUnlike, cX7_ranksUnlike, 5, (some .int)), ([7, 7], [(0, 0), (1, 0)], [false, false], false, false, 0), (false, 7, 2))
def rX7_ranksUnlike : List ab_R := [(0, .iconst 0, 1, 0, 0, 0, [], none),
  (1, .istore_n 3, 1, 0, 0, 0, [], none),
  (2, .iconst 0, 1, 0, 0, 0, [], none),
  (3, .istore 4, 2, 0, 0, 0, [], none),
  (5, .iload 4, 2, 0, 0, 0, [], none),
  (7, .iload_n 2, 1, 0, 0, 0, [], none),
  (8, .if_icmp .ge 32, 3, 0, 0, 0, [40], none),
  (11, .iload_n 3, 1, 0, 0, 0, [], none),
  (12, .aload_n 0, 1, 0, 0, 0, [], none),
  (13, .iload 4, 2, 0, 0, 0, [], none),
  (15, .invokevirtual 106, 3, 0, 0, 0, [], some mX7_rank),
  (18, .aload_n 1, 1, 0, 0, 0, [], none),
  (19, .iload 4, 2, 0, 0, 0, [], none),
  (21, .invokevirtual 106, 3, 0, 0, 0, [], some mX7_rank),
  (24, .if_icmp .eq 7, 3, 0, 0, 0, [31], none),
  (27, .iconst 1, 1, 0, 0, 0, [], none),
  (28, .goto 4, 3, 0, 0, 0, [32], none),
  (31, .iconst 0, 1, 0, 0, 0, [], none),
  (32, .iadd, 1, 0, 0, 0, [], none),
  (33, .istore_n 3, 1, 0, 0, 0, [], none),
  (34, .iinc 4 1, 3, 0, 0, 0, [], none),
  (37, .goto (-32), 3, 0, 0, 0, [5], none),
  (40, .iload_n 3, 1, 0, 0, 0, [], none),
  (41, .ireturn, 1, 0, 0, 0, [], none)]
set_option maxRecDepth 100000 in
theorem kX7_ranksUnlike : ab_def_ok mX7_ranksUnlike rX7_ranksUnlike := ⟨ab_mok_of 1049 105 1047 1048 (by decide +kernel), [0, 0, 0, 0, 0, 0, 0, 0, 0, 0, 1050, 0, 0, 1050, 0, 0, 0, 0, 0, 0, 0, 0, 0, 0], by decide +kernel⟩
set_option maxRecDepth 100000 in
theorem vX7_ranksUnlike_0 {x : ab_Cx} {d mc ms : Nat} {Post : Option ab_V → List ab_Ob → Prop} (hx : ab_At x mX7_ranksUnlike d mc ms Post) (a2 : Int) (w0 w1 : ab_Ob) (kc ks : Nat)
    (h : ab_J x 5 [some (ab_O 0), some (ab_O 1), some (ab_I a2), some (ab_I 0), some (ab_I 0)] [] [w0, w1] kc ks) :
    ab_J x 0 [some (ab_O 0), some (ab_O 1), some (ab_I a2), none, none] [] [w0, w1] kc ks := ab_go hx kX7_ranksUnlike.2 9 [(5, [true, true, true, true, true])] 0 h
set_option maxRecDepth 100000 in
theorem vX7_ranksUnlike_5 {x : ab_Cx} {d mc ms : Nat} {Post : Option ab_V → List ab_Ob → Prop} (hx : ab_At x mX7_ranksUnlike d mc ms Post) (l2 l3 l4 : Int) (w0 w1 : ab_Ob) (kc ks : Nat)
    (h : ((l2 ≤ l4 → Post (some (ab_I l3)) [w0, w1]) ∧ (¬ l2 ≤ l4 → (∃ Q1 : Option ab_V → List ab_Ob → Prop, ab_Ct d 0 0 mX7_rank [ab_O 0, ab_I l4] [w0] Q1 ∧ (∀ r2 : Int, Q1 (some (ab_I r2)) [w0] → (∃ Q3 : Option ab_V → List ab_Ob → Prop, ab_Ct d 0 0 mX7_rank [ab_O 0, ab_I l4] [w1] Q3 ∧ (∀ r4 : Int, Q3 (some (ab_I r4)) [w1] → ((r2 = r4 → ((-2147483648 ≤ l3 + 0 ∧ l3 + 0 ≤ 2147483647) ∧ ((-2147483648 ≤ l4 + 1 ∧ l4 + 1 ≤ 2147483647) ∧ ab_J x 5 [some (ab_O 0), some (ab_O 1), some (ab_I l2), some (ab_I (l3 + 0)), some (ab_I (l4 + 1))] [] [w0, w1] kc ks))) ∧ (¬ r2 = r4 → ((-2147483648 ≤ l3 + 1 ∧ l3 + 1 ≤ 2147483647) ∧ ((-2147483648 ≤ l4 + 1 ∧ l4 + 1 ≤ 2147483647) ∧ ab_J x 5 [some (ab_O 0), some (ab_O 1), some (ab_I l2), some (ab_I (l3 + 1)), some (ab_I (l4 + 1))] [] [w0, w1] kc ks))))))))))) :
    ab_J x 5 [some (ab_O 0), some (ab_O 1), some (ab_I l2), some (ab_I l3), some (ab_I l4)] [] [w0, w1] kc ks := ab_go hx kX7_ranksUnlike.2 22 [(5, [true, true, true, true, true])] 5 h
