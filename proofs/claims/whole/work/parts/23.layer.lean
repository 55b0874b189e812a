def mX3_cut : ab_M := ((yX3_cut, cX3_cut, 8, none), ([3, 7], [(0, 0), (1, 0)], [true, false], false, false, 0), (false, 3, 3))
def rX3_cut : List ab_R := [(0, .aload_n 0, 1, 0, 0, 0, [], none),
  (1, .iconst 0, 1, 0, 0, 0, [], none),
  (2, .putfield 9, 3, 3, 0, 0, [], none),
  (5, .iconst 0, 1, 0, 0, 0, [], none),
  (6, .istore 4, 2, 0, 0, 0, [], none),
  (8, .iconst (-1), 1, 0, 0, 0, [], none),
  (9, .istore 5, 2, 0, 0, 0, [], none),
  (11, .iconst 0, 1, 0, 0, 0, [], none),
  (12, .istore 6, 2, 0, 0, 0, [], none),
  (14, .iload 6, 2, 0, 0, 0, [], none),
  (16, .iload_n 3, 1, 0, 0, 0, [], none),
  (17, .if_icmp .ge 159, 3, 0, 0, 0, [176], none),
  (20, .iload 6, 2, 0, 0, 0, [], none),
  (22, .iload 5, 2, 0, 0, 0, [], none),
  (24, .if_icmp .le 146, 3, 0, 0, 0, [170], none),
  (27, .iload 4, 2, 0, 0, 0, [], none),
  (29, .aload_n 1, 1, 0, 0, 0, [], none),
  (30, .getfield 25, 3, 7, 2, 0, [], none),
  (33, .if_icmp .ge 32, 3, 0, 0, 0, [65], none),
  (36, .aload_n 1, 1, 0, 0, 0, [], none),
  (37, .getfield 30, 3, 7, 8, 0, [], none),
  (40, .iload 4, 2, 0, 0, 0, [], none),
  (42, .iaload, 1, 0, 0, 0, [], none),
  (43, .iload_n 2, 1, 0, 0, 0, [], none),
  (44, .if_icmp .ne 15, 3, 0, 0, 0, [59], none),
  (47, .aload_n 1, 1, 0, 0, 0, [], none),
  (48, .getfield 33, 3, 7, 3, 0, [], none),
  (51, .iload 4, 2, 0, 0, 0, [], none),
  (53, .iaload, 1, 0, 0, 0, [], none),
  (54, .iload 6, 2, 0, 0, 0, [], none),
  (56, .if_icmp .ge 9, 3, 0, 0, 0, [65], none),
  (59, .iinc 4 1, 3, 0, 0, 0, [], none),
  (62, .goto (-35), 3, 0, 0, 0, [27], none),
  (65, .iload 4, 2, 0, 0, 0, [], none),
  (67, .aload_n 1, 1, 0, 0, 0, [], none),
  (68, .getfield 25, 3, 7, 2, 0, [], none),
  (71, .if_icmp .ge 19, 3, 0, 0, 0, [90], none),
  (74, .aload_n 1, 1, 0, 0, 0, [], none),
  (75, .getfield 33, 3, 7, 3, 0, [], none),
  (78, .iload 4, 2, 0, 0, 0, [], none),
  (80, .iaload, 1, 0, 0, 0, [], none),
  (81, .iload 6, 2, 0, 0, 0, [], none),
  (83, .if_icmp .ne 7, 3, 0, 0, 0, [90], none),
  (86, .iconst 1, 1, 0, 0, 0, [], none),
  (87, .goto 4, 3, 0, 0, 0, [91], none),
  (90, .iconst 0, 1, 0, 0, 0, [], none),
  (91, .istore 7, 2, 0, 0, 0, [], none),
  (93, .iload 7, 2, 0, 0, 0, [], none),
  (95, .ifCond .eq 13, 3, 0, 0, 0, [108], none),
  (98, .aload_n 1, 1, 0, 0, 0, [], none),
  (99, .getfield 34, 3, 7, 4, 0, [], none),
  (102, .iload 4, 2, 0, 0, 0, [], none),
  (104, .iaload, 1, 0, 0, 0, [], none),
  (105, .goto 5, 3, 0, 0, 0, [110], none),
  (108, .iload 6, 2, 0, 0, 0, [], none),
  (110, .istore 5, 2, 0, 0, 0, [], none),
  (112, .aload_n 0, 1, 0, 0, 0, [], none),
  (113, .getfield 15, 3, 3, 1, 0, [], none),
  (116, .aload_n 0, 1, 0, 0, 0, [], none),
  (117, .getfield 9, 3, 3, 0, 0, [], none),
  (120, .iload 7, 2, 0, 0, 0, [], none),
  (122, .ifCond .eq 13, 3, 0, 0, 0, [135], none),
  (125, .aload_n 1, 1, 0, 0, 0, [], none),
  (126, .getfield 35, 3, 7, 6, 0, [], none),
  (129, .iload 4, 2, 0, 0, 0, [], none),
  (131, .iaload, 1, 0, 0, 0, [], none),
  (132, .goto 5, 3, 0, 0, 0, [137], none),
  (135, .iload 6, 2, 0, 0, 0, [], none),
  (137, .iastore, 1, 0, 0, 0, [], none),
  (138, .aload_n 0, 1, 0, 0, 0, [], none),
  (139, .getfield 19, 3, 3, 2, 0, [], none),
  (142, .aload_n 0, 1, 0, 0, 0, [], none),
  (143, .getfield 9, 3, 3, 0, 0, [], none),
  (146, .iload 6, 2, 0, 0, 0, [], none),
  (148, .iastore, 1, 0, 0, 0, [], none),
  (149, .aload_n 0, 1, 0, 0, 0, [], none),
  (150, .getfield 22, 3, 3, 3, 0, [], none),
  (153, .aload_n 0, 1, 0, 0, 0, [], none),
  (154, .getfield 9, 3, 3, 0, 0, [], none),
  (157, .iload 5, 2, 0, 0, 0, [], none),
  (159, .iastore, 1, 0, 0, 0, [], none),
  (160, .aload_n 0, 1, 0, 0, 0, [], none),
  (161, .dup, 1, 0, 0, 0, [], none),
  (162, .getfield 9, 3, 3, 0, 0, [], none),
  (165, .iconst 1, 1, 0, 0, 0, [], none),
  (166, .iadd, 1, 0, 0, 0, [], none),
  (167, .putfield 9, 3, 3, 0, 0, [], none),
  (170, .iinc 6 1, 3, 0, 0, 0, [], none),
  (173, .goto (-159), 3, 0, 0, 0, [14], none),
  (176, .return_, 1, 0, 0, 0, [], none)]
set_option maxRecDepth 100000 in
theorem kX3_cut : ab_def_ok mX3_cut rX3_cut := ⟨ab_mok_of 876 107 874 875 (by decide +kernel), [0, 0, 372, 0, 0, 0, 0, 0, 0, 0, 0, 0, 0, 0, 0, 0, 0, 294, 0, 0, 310, 0, 0, 0, 0, 0, 297, 0, 0, 0, 0, 0, 0, 0, 0, 294, 0, 0, 297, 0, 0, 0, 0, 0, 0, 0, 0, 0, 0, 0, 300, 0, 0, 0, 0, 0, 0, 374, 0, 372, 0, 0, 0, 305, 0, 0, 0, 0, 0, 0, 376, 0, 372, 0, 0, 0, 378, 0, 372, 0, 0, 0, 0, 372, 0, 0, 372, 0, 0, 0], by decide +kernel⟩
set_option maxRecDepth 100000 in
theorem vX3_cut_0 {x : ab_Cx} {d mc ms : Nat} {Post : Option ab_V → List ab_Ob → Prop} (hx : ab_At x mX3_cut d mc ms Post) (a2 a3 : Int) (w0 w1 : ab_Ob) (kc ks : Nat)
    (h : ab_J x 14 [some (ab_O 0), some (ab_O 1), some (ab_I a2), some (ab_I a3), some (ab_I 0), some (ab_I (-1)), some (ab_I 0), none] [] [(ab_pf w0 0 0), w1] kc ks) :
    ab_J x 0 [some (ab_O 0), some (ab_O 1), some (ab_I a2), some (ab_I a3), none, none, none, none] [] [w0, w1] kc ks := ab_go hx kX3_cut.2 14 [(14, [true, true, true, true, true, true, true, false]), (27, [true, true, true, true, true, false, true, false]), (59, [true, true, true, true, true, false, true, false]), (65, [true, true, true, true, true, false, true, false]), (90, [true, true, true, true, true, false, true, false]), (91, [true, true, true, true, true, false, true, false]), (110, [true, true, true, true, true, false, true, true]), (137, [true, true, true, true, true, true, true, false]), (170, [true, true, true, true, true, true, true, false])] 0 h
set_option maxRecDepth 100000 in
theorem vX3_cut_14 {x : ab_Cx} {d mc ms : Nat} {Post : Option ab_V → List ab_Ob → Prop} (hx : ab_At x mX3_cut d mc ms Post) (l2 l3 l4 l5 l6 : Int) (w0 w1 : ab_Ob) (kc ks : Nat)
    (h : ((l3 ≤ l6 → Post none [w0, w1]) ∧ (¬ l3 ≤ l6 → ((l6 ≤ l5 → ab_J x 170 [some (ab_O 0), some (ab_O 1), some (ab_I l2), some (ab_I l3), some (ab_I l4), some (ab_I l5), some (ab_I l6), none] [] [w0, w1] kc ks) ∧ (¬ l6 ≤ l5 → ab_J x 27 [some (ab_O 0), some (ab_O 1), some (ab_I l2), some (ab_I l3), some (ab_I l4), none, some (ab_I l6), none] [] [w0, w1] kc ks))))) :
    ab_J x 14 [some (ab_O 0), some (ab_O 1), some (ab_I l2), some (ab_I l3), some (ab_I l4), some (ab_I l5), some (ab_I l6), none] [] [w0, w1] kc ks := ab_go hx kX3_cut.2 11 [(14, [true, true, true, true, true, true, true, false]), (27, [true, true, true, true, true, false, true, false]), (59, [true, true, true, true, true, false, true, false]), (65, [true, true, true, true, true, false, true, false]), (90, [true, true, true, true, true, false, true, false]), (91, [true, true, true, true, true, false, true, false]), (110, [true, true, true, true, true, false, true, true]), (137, [true, true, true, true, true, true, true, false]), (170, [true, true, true, true, true, true, true, false])] 14 h
set_option maxRecDepth 100000 in
theorem vX3_cut_170 {x : ab_Cx} {d mc ms : Nat} {Post : Option ab_V → List ab_Ob → Prop} (hx : ab_At x mX3_cut d mc ms Post) (l2 l3 l4 l5 l6 : Int) (w0 w1 : ab_Ob) (kc ks : Nat)
    (h : ((-2147483648 ≤ l6 + 1 ∧ l6 + 1 ≤ 2147483647) ∧ ab_J x 14 [some (ab_O 0), some (ab_O 1), some (ab_I l2), some (ab_I l3), some (ab_I l4), some (ab_I l5), some (ab_I (l6 + 1)), none] [] [w0, w1] kc ks)) :
    ab_J x 170 [some (ab_O 0), some (ab_O 1), some (ab_I l2), some (ab_I l3), some (ab_I l4), some (ab_I l5), some (ab_I l6), none] [] [w0, w1] kc ks := ab_go hx kX3_cut.2 7 [(14, [true, true, true, true, true, true, true, false]), (27, [true, true, true, true, true, false, true, false]), (59, [true, true, true, true, true, false, true, false]), (65, [true, true, true, true, true, false, true, false]), (90, [true, true, true, true, true, false, true, false]), (91, [true, true, true, true, true, false, true, false]), (110, [true, true, true, true, true, false, true, true]), (137, [true, true, true, true, true, true, true, false]), (170, [true, true, true, true, true, true, true, false])] 170 h
set_option maxRecDepth 100000 in
theorem vX3_cut_27 {x : ab_Cx} {d mc ms : Nat} {Post : Option ab_V → List ab_Ob → Prop} (hx : ab_At x mX3_cut d mc ms Post) (l2 l3 l4 l6 : Int) (w0 w1 : ab_Ob) (kc ks : Nat)
    (h : (((w1.1 2) ≤ l4 → ab_J x 65 [some (ab_O 0), some (ab_O 1), some (ab_I l2), some (ab_I l3), some (ab_I l4), none, some (ab_I l6), none] [] [w0, w1] kc ks) ∧ (¬ (w1.1 2) ≤ l4 → ((0 ≤ l4 ∧ l4 < (w1.2 8).1) ∧ ((¬ ((w1.2 8).2 l4) = l2 → ab_J x 59 [some (ab_O 0), some (ab_O 1), some (ab_I l2), some (ab_I l3), some (ab_I l4), none, some (ab_I l6), none] [] [w0, w1] kc ks) ∧ (((w1.2 8).2 l4) = l2 → ((0 ≤ l4 ∧ l4 < (w1.2 3).1) ∧ ((l6 ≤ ((w1.2 3).2 l4) → ab_J x 65 [some (ab_O 0), some (ab_O 1), some (ab_I l2), some (ab_I l3), some (ab_I l4), none, some (ab_I l6), none] [] [w0, w1] kc ks) ∧ (¬ l6 ≤ ((w1.2 3).2 l4) → ab_J x 59 [some (ab_O 0), some (ab_O 1), some (ab_I l2), some (ab_I l3), some (ab_I l4), none, some (ab_I l6), none] [] [w0, w1] kc ks))))))))) :
    ab_J x 27 [some (ab_O 0), some (ab_O 1), some (ab_I l2), some (ab_I l3), some (ab_I l4), none, some (ab_I l6), none] [] [w0, w1] kc ks := ab_go hx kX3_cut.2 21 [(14, [true, true, true, true, true, true, true, false]), (27, [true, true, true, true, true, false, true, false]), (59, [true, true, true, true, true, false, true, false]), (65, [true, true, true, true, true, false, true, false]), (90, [true, true, true, true, true, false, true, false]), (91, [true, true, true, true, true, false, true, false]), (110, [true, true, true, true, true, false, true, true]), (137, [true, true, true, true, true, true, true, false]), (170, [true, true, true, true, true, true, true, false])] 27 h
set_option maxRecDepth 100000 in
theorem vX3_cut_65 {x : ab_Cx} {d mc ms : Nat} {Post : Option ab_V → List ab_Ob → Prop} (hx : ab_At x mX3_cut d mc ms Post) (l2 l3 l4 l6 : Int) (w0 w1 : ab_Ob) (kc ks : Nat)
    (h : (((w1.1 2) ≤ l4 → ab_J x 90 [some (ab_O 0), some (ab_O 1), some (ab_I l2), some (ab_I l3), some (ab_I l4), none, some (ab_I l6), none] [] [w0, w1] kc ks) ∧ (¬ (w1.1 2) ≤ l4 → ((0 ≤ l4 ∧ l4 < (w1.2 3).1) ∧ ((¬ ((w1.2 3).2 l4) = l6 → ab_J x 90 [some (ab_O 0), some (ab_O 1), some (ab_I l2), some (ab_I l3), some (ab_I l4), none, some (ab_I l6), none] [] [w0, w1] kc ks) ∧ (((w1.2 3).2 l4) = l6 → ab_J x 91 [some (ab_O 0), some (ab_O 1), some (ab_I l2), some (ab_I l3), some (ab_I l4), none, some (ab_I l6), none] [ab_I 1] [w0, w1] kc ks)))))) :
    ab_J x 65 [some (ab_O 0), some (ab_O 1), some (ab_I l2), some (ab_I l3), some (ab_I l4), none, some (ab_I l6), none] [] [w0, w1] kc ks := ab_go hx kX3_cut.2 17 [(14, [true, true, true, true, true, true, true, false]), (27, [true, true, true, true, true, false, true, false]), (59, [true, true, true, true, true, false, true, false]), (65, [true, true, true, true, true, false, true, false]), (90, [true, true, true, true, true, false, true, false]), (91, [true, true, true, true, true, false, true, false]), (110, [true, true, true, true, true, false, true, true]), (137, [true, true, true, true, true, true, true, false]), (170, [true, true, true, true, true, true, true, false])] 65 h
set_option maxRecDepth 100000 in
theorem vX3_cut_59 {x : ab_Cx} {d mc ms : Nat} {Post : Option ab_V → List ab_Ob → Prop} (hx : ab_At x mX3_cut d mc ms Post) (l2 l3 l4 l6 : Int) (w0 w1 : ab_Ob) (kc ks : Nat)
    (h : ((-2147483648 ≤ l4 + 1 ∧ l4 + 1 ≤ 2147483647) ∧ ab_J x 27 [some (ab_O 0), some (ab_O 1), some (ab_I l2), some (ab_I l3), some (ab_I (l4 + 1)), none, some (ab_I l6), none] [] [w0, w1] kc ks)) :
    ab_J x 59 [some (ab_O 0), some (ab_O 1), some (ab_I l2), some (ab_I l3), some (ab_I l4), none, some (ab_I l6), none] [] [w0, w1] kc ks := ab_go hx kX3_cut.2 7 [(14, [true, true, true, true, true, true, true, false]), (27, [true, true, true, true, true, false, true, false]), (59, [true, true, true, true, true, false, true, false]), (65, [true, true, true, true, true, false, true, false]), (90, [true, true, true, true, true, false, true, false]), (91, [true, true, true, true, true, false, true, false]), (110, [true, true, true, true, true, false, true, true]), (137, [true, true, true, true, true, true, true, false]), (170, [true, true, true, true, true, true, true, false])] 59 h
set_option maxRecDepth 100000 in
theorem vX3_cut_90 {x : ab_Cx} {d mc ms : Nat} {Post : Option ab_V → List ab_Ob → Prop} (hx : ab_At x mX3_cut d mc ms Post) (l2 l3 l4 l6 : Int) (w0 w1 : ab_Ob) (kc ks : Nat)
    (h : ab_J x 91 [some (ab_O 0), some (ab_O 1), some (ab_I l2), some (ab_I l3), some (ab_I l4), none, some (ab_I l6), none] [ab_I 0] [w0, w1] kc ks) :
    ab_J x 90 [some (ab_O 0), some (ab_O 1), some (ab_I l2), some (ab_I l3), some (ab_I l4), none, some (ab_I l6), none] [] [w0, w1] kc ks := ab_go hx kX3_cut.2 6 [(14, [true, true, true, true, true, true, true, false]), (27, [true, true, true, true, true, false, true, false]), (59, [true, true, true, true, true, false, true, false]), (65, [true, true, true, true, true, false, true, false]), (90, [true, true, true, true, true, false, true, false]), (91, [true, true, true, true, true, false, true, false]), (110, [true, true, true, true, true, false, true, true]), (137, [true, true, true, true, true, true, true, false]), (170, [true, true, true, true, true, true, true, false])] 90 h
set_option maxRecDepth 100000 in
theorem vX3_cut_91 {x : ab_Cx} {d mc ms : Nat} {Post : Option ab_V → List ab_Ob → Prop} (hx : ab_At x mX3_cut d mc ms Post) (l2 l3 l4 l6 t0 : Int) (w0 w1 : ab_Ob) (kc ks : Nat)
    (h : ((t0 = 0 → ab_J x 110 [some (ab_O 0), some (ab_O 1), some (ab_I l2), some (ab_I l3), some (ab_I l4), none, some (ab_I l6), some (ab_I t0)] [ab_I l6] [w0, w1] kc ks) ∧ (¬ t0 = 0 → ((0 ≤ l4 ∧ l4 < (w1.2 4).1) ∧ ab_J x 110 [some (ab_O 0), some (ab_O 1), some (ab_I l2), some (ab_I l3), some (ab_I l4), none, some (ab_I l6), some (ab_I t0)] [ab_I ((w1.2 4).2 l4)] [w0, w1] kc ks)))) :
    ab_J x 91 [some (ab_O 0), some (ab_O 1), some (ab_I l2), some (ab_I l3), some (ab_I l4), none, some (ab_I l6), none] [ab_I t0] [w0, w1] kc ks := ab_go hx kX3_cut.2 13 [(14, [true, true, true, true, true, true, true, false]), (27, [true, true, true, true, true, false, true, false]), (59, [true, true, true, true, true, false, true, false]), (65, [true, true, true, true, true, false, true, false]), (90, [true, true, true, true, true, false, true, false]), (91, [true, true, true, true, true, false, true, false]), (110, [true, true, true, true, true, false, true, true]), (137, [true, true, true, true, true, true, true, false]), (170, [true, true, true, true, true, true, true, false])] 91 h
set_option maxRecDepth 100000 in
theorem vX3_cut_110 {x : ab_Cx} {d mc ms : Nat} {Post : Option ab_V → List ab_Ob → Prop} (hx : ab_At x mX3_cut d mc ms Post) (l2 l3 l4 l6 l7 t0 : Int) (w0 w1 : ab_Ob) (kc ks : Nat)
    (h : ((l7 = 0 → ab_J x 137 [some (ab_O 0), some (ab_O 1), some (ab_I l2), some (ab_I l3), some (ab_I l4), some (ab_I t0), some (ab_I l6), none] [ab_I l6, ab_I (w0.1 0), ab_A 0 1] [w0, w1] kc ks) ∧ (¬ l7 = 0 → ((0 ≤ l4 ∧ l4 < (w1.2 6).1) ∧ ab_J x 137 [some (ab_O 0), some (ab_O 1), some (ab_I l2), some (ab_I l3), some (ab_I l4), some (ab_I t0), some (ab_I l6), none] [ab_I ((w1.2 6).2 l4), ab_I (w0.1 0), ab_A 0 1] [w0, w1] kc ks)))) :
    ab_J x 110 [some (ab_O 0), some (ab_O 1), some (ab_I l2), some (ab_I l3), some (ab_I l4), none, some (ab_I l6), some (ab_I l7)] [ab_I t0] [w0, w1] kc ks := ab_go hx kX3_cut.2 17 [(14, [true, true, true, true, true, true, true, false]), (27, [true, true, true, true, true, false, true, false]), (59, [true, true, true, true, true, false, true, false]), (65, [true, true, true, true, true, false, true, false]), (90, [true, true, true, true, true, false, true, false]), (91, [true, true, true, true, true, false, true, false]), (110, [true, true, true, true, true, false, true, true]), (137, [true, true, true, true, true, true, true, false]), (170, [true, true, true, true, true, true, true, false])] 110 h
set_option maxRecDepth 100000 in
theorem vX3_cut_137 {x : ab_Cx} {d mc ms : Nat} {Post : Option ab_V → List ab_Ob → Prop} (hx : ab_At x mX3_cut d mc ms Post) (l2 l3 l4 l5 l6 t0 t1 : Int) (w0 w1 : ab_Ob) (kc ks : Nat)
    (h : ((0 ≤ t1 ∧ t1 < (w0.2 1).1) ∧ ((0 ≤ (w0.1 0) ∧ (w0.1 0) < (w0.2 2).1) ∧ ((0 ≤ (w0.1 0) ∧ (w0.1 0) < (w0.2 3).1) ∧ ((-2147483648 ≤ (w0.1 0) + 1 ∧ (w0.1 0) + 1 ≤ 2147483647) ∧ ab_J x 170 [some (ab_O 0), some (ab_O 1), some (ab_I l2), some (ab_I l3), some (ab_I l4), some (ab_I l5), some (ab_I l6), none] [] [(ab_pf (ab_pa (ab_pa (ab_pa w0 1 t1 t0) 2 (w0.1 0) l6) 3 (w0.1 0) l5) 0 ((w0.1 0) + 1)), w1] kc ks))))) :
    ab_J x 137 [some (ab_O 0), some (ab_O 1), some (ab_I l2), some (ab_I l3), some (ab_I l4), some (ab_I l5), some (ab_I l6), none] [ab_I t0, ab_I t1, ab_A 0 1] [w0, w1] kc ks := ab_go hx kX3_cut.2 24 [(14, [true, true, true, true, true, true, true, false]), (27, [true, true, true, true, true, false, true, false]), (59, [true, true, true, true, true, false, true, false]), (65, [true, true, true, true, true, false, true, false]), (90, [true, true, true, true, true, false, true, false]), (91, [true, true, true, true, true, false, true, false]), (110, [true, true, true, true, true, false, true, true]), (137, [true, true, true, true, true, true, true, false]), (170, [true, true, true, true, true, true, true, false])] 137 h
def mX3_stepFrom : ab_M := ((yX3_stepFrom, cX3_stepFrom, 3, (some .int)), ([3, 5], [(0, 0), (1, 0)], [false, false], false, false, 0), (false, 3, 2))
def rX3_stepFrom : List ab_R := [(0, .aload_n 1, 1, 0, 0, 0, [], none),
  (1, .getfield 38, 3, 5, 4, 0, [], none),
  (4, .aload_n 0, 1, 0, 0, 0, [], none),
  (5, .getfield 15, 3, 3, 1, 0, [], none),
  (8, .iload_n 2, 1, 0, 0, 0, [], none),
  (9, .iconst 1, 1, 0, 0, 0, [], none),
  (10, .iadd, 1, 0, 0, 0, [], none),
  (11, .iaload, 1, 0, 0, 0, [], none),
  (12, .iaload, 1, 0, 0, 0, [], none),
  (13, .aload_n 1, 1, 0, 0, 0, [], none),
  (14, .getfield 38, 3, 5, 4, 0, [], none),
  (17, .aload_n 0, 1, 0, 0, 0, [], none),
  (18, .getfield 15, 3, 3, 1, 0, [], none),
  (21, .iload_n 2, 1, 0, 0, 0, [], none),
  (22, .iaload, 1, 0, 0, 0, [], none),
  (23, .iaload, 1, 0, 0, 0, [], none),
  (24, .isub, 1, 0, 0, 0, [], none),
  (25, .ireturn, 1, 0, 0, 0, [], none)]
set_option maxRecDepth 100000 in
theorem kX3_stepFrom : ab_def_ok mX3_stepFrom rX3_stepFrom := ⟨ab_mok_of 888 107 886 887 (by decide +kernel), [0, 153, 0, 374, 0, 0, 0, 0, 0, 0, 153, 0, 374, 0, 0, 0, 0, 0], by decide +kernel⟩
set_option maxRecDepth 100000 in
theorem vX3_stepFrom_0 {x : ab_Cx} {d mc ms : Nat} {Post : Option ab_V → List ab_Ob → Prop} (hx : ab_At x mX3_stepFrom d mc ms Post) (a2 : Int) (w0 w1 : ab_Ob) (kc ks : Nat)
    (h : ((-2147483648 ≤ a2 + 1 ∧ a2 + 1 ≤ 2147483647) ∧ ((0 ≤ (a2 + 1) ∧ (a2 + 1) < (w0.2 1).1) ∧ ((0 ≤ ((w0.2 1).2 (a2 + 1)) ∧ ((w0.2 1).2 (a2 + 1)) < (w1.2 4).1) ∧ ((0 ≤ a2 ∧ a2 < (w0.2 1).1) ∧ ((0 ≤ ((w0.2 1).2 a2) ∧ ((w0.2 1).2 a2) < (w1.2 4).1) ∧ ((-2147483648 ≤ ((w1.2 4).2 ((w0.2 1).2 (a2 + 1))) - ((w1.2 4).2 ((w0.2 1).2 a2)) ∧ ((w1.2 4).2 ((w0.2 1).2 (a2 + 1))) - ((w1.2 4).2 ((w0.2 1).2 a2)) ≤ 2147483647) ∧ Post (some (ab_I (((w1.2 4).2 ((w0.2 1).2 (a2 + 1))) - ((w1.2 4).2 ((w0.2 1).2 a2))))) [w0, w1]))))))) :
    ab_J x 0 [some (ab_O 0), some (ab_O 1), some (ab_I a2)] [] [w0, w1] kc ks := ab_go hx kX3_stepFrom.2 22 [] 0 h
def mX3_stepsAsIn : ab_M := ((yX3_stepsAsIn, cX3_stepsAsIn, 5, (some .boolean)), ([3, 5, 3], [(0, 0), (1, 0), (2, 0)], [false, false, false], false, false, 0), (false, 3, 3))
def rX3_stepsAsIn : List ab_R := [(0, .iconst 0, 1, 0, 0, 0, [], none),
  (1, .istore 4, 2, 0, 0, 0, [], none),
  (3, .iload 4, 2, 0, 0, 0, [], none),
  (5, .iconst 1, 1, 0, 0, 0, [], none),
  (6, .iadd, 1, 0, 0, 0, [], none),
  (7, .aload_n 0, 1, 0, 0, 0, [], none),
  (8, .getfield 9, 3, 3, 0, 0, [], none),
  (11, .if_icmp .ge 30, 3, 0, 0, 0, [41], none),
  (14, .aload_n 0, 1, 0, 0, 0, [], none),
  (15, .aload_n 1, 1, 0, 0, 0, [], none),
  (16, .iload 4, 2, 0, 0, 0, [], none),
  (18, .invokevirtual 43, 3, 0, 0, 0, [], some mX3_stepFrom),
  (21, .aload_n 2, 1, 0, 0, 0, [], none),
  (22, .aload_n 1, 1, 0, 0, 0, [], none),
  (23, .iload_n 3, 1, 0, 0, 0, [], none),
  (24, .iload 4, 2, 0, 0, 0, [], none),
  (26, .iadd, 1, 0, 0, 0, [], none),
  (27, .invokevirtual 43, 3, 0, 0, 0, [], some mX3_stepFrom),
  (30, .if_icmp .eq 5, 3, 0, 0, 0, [35], none),
  (33, .iconst 0, 1, 0, 0, 0, [], none),
  (34, .ireturn, 1, 0, 0, 0, [], none),
  (35, .iinc 4 1, 3, 0, 0, 0, [], none),
  (38, .goto (-35), 3, 0, 0, 0, [3], none),
  (41, .iconst 1, 1, 0, 0, 0, [], none),
  (42, .ireturn, 1, 0, 0, 0, [], none)]
set_option maxRecDepth 100000 in
theorem kX3_stepsAsIn : ab_def_ok mX3_stepsAsIn rX3_stepsAsIn := ⟨ab_mok_of 922 107 920 921 (by decide +kernel), [0, 0, 0, 0, 0, 0, 372, 0, 0, 0, 0, 923, 0, 0, 0, 0, 0, 923, 0, 0, 0, 0, 0, 0, 0], by decide +kernel⟩
set_option maxRecDepth 100000 in
theorem vX3_stepsAsIn_0 {x : ab_Cx} {d mc ms : Nat} {Post : Option ab_V → List ab_Ob → Prop} (hx : ab_At x mX3_stepsAsIn d mc ms Post) (a3 : Int) (w0 w1 w2 : ab_Ob) (kc ks : Nat)
    (h : ab_J x 3 [some (ab_O 0), some (ab_O 1), some (ab_O 2), some (ab_I a3), some (ab_I 0)] [] [w0, w1, w2] kc ks) :
    ab_J x 0 [some (ab_O 0), some (ab_O 1), some (ab_O 2), some (ab_I a3), none] [] [w0, w1, w2] kc ks := ab_go hx kX3_stepsAsIn.2 7 [(3, [true, true, true, true, true])] 0 h
set_option maxRecDepth 100000 in
theorem vX3_stepsAsIn_3 {x : ab_Cx} {d mc ms : Nat} {Post : Option ab_V → List ab_Ob → Prop} (hx : ab_At x mX3_stepsAsIn d mc ms Post) (l3 l4 : Int) (w0 w1 w2 : ab_Ob) (kc ks : Nat)
    (h : ((-2147483648 ≤ l4 + 1 ∧ l4 + 1 ≤ 2147483647) ∧ (((w0.1 0) ≤ (l4 + 1) → (((1 : Int) = 0 ∨ (1 : Int) = 1) ∧ Post (some (ab_I 1)) [w0, w1, w2])) ∧ (¬ (w0.1 0) ≤ (l4 + 1) → (∃ Q1 : Option ab_V → List ab_Ob → Prop, ab_Ct d 0 0 mX3_stepFrom [ab_O 0, ab_O 1, ab_I l4] [w0, w1] Q1 ∧ (∀ r2 : Int, Q1 (some (ab_I r2)) [w0, w1] → ((-2147483648 ≤ l3 + l4 ∧ l3 + l4 ≤ 2147483647) ∧ (∃ Q3 : Option ab_V → List ab_Ob → Prop, ab_Ct d 0 0 mX3_stepFrom [ab_O 0, ab_O 1, ab_I (l3 + l4)] [w2, w1] Q3 ∧ (∀ r4 : Int, Q3 (some (ab_I r4)) [w2, w1] → ((r2 = r4 → ((-2147483648 ≤ l4 + 1 ∧ l4 + 1 ≤ 2147483647) ∧ ab_J x 3 [some (ab_O 0), some (ab_O 1), some (ab_O 2), some (ab_I l3), some (ab_I (l4 + 1))] [] [w0, w1, w2] kc ks)) ∧ (¬ r2 = r4 → (((0 : Int) = 0 ∨ (0 : Int) = 1) ∧ Post (some (ab_I 0)) [w0, w1, w2])))))))))))) :
    ab_J x 3 [some (ab_O 0), some (ab_O 1), some (ab_O 2), some (ab_I l3), some (ab_I l4)] [] [w0, w1, w2] kc ks := ab_go hx kX3_stepsAsIn.2 24 [(3, [true, true, true, true, true])] 3 h
