def mX8_undo : ab_M := ((yX8_undo, cX8_undo, 2, (some .boolean)), ([8, 4, 5, 5, 0, 1, 2, 7, 6, 1, 7, 7, 7, 7, 3, 3], [(0, 0), (0, 1), (0, 2), (0, 3), (0, 4), (0, 5), (0, 6), (0, 7), (0, 8), (0, 9), (0, 10), (0, 11), (0, 12), (0, 13), (0, 14), (0, 15)], [true, false, false, true, true, false, false, false, true, false, false, false, false, false, false, false], false, false, 0), (false, 8, 0))
def rX8_undo : List ab_R := [(0, .aload_n 0, 1, 0, 0, 0, [], none),
  (1, .getfield 30, 3, 8, 3, 0, [], none),
  (4, .getfield 115, 3, 0, 0, 0, [], none),
  (7, .iconst 1, 1, 0, 0, 0, [], none),
  (8, .if_icmp .ge 10, 3, 0, 0, 0, [18], none),
  (11, .aload_n 0, 1, 0, 0, 0, [], none),
  (12, .iconst 1, 1, 0, 0, 0, [], none),
  (13, .putfield 9, 3, 8, 0, 0, [], none),
  (16, .iconst 0, 1, 0, 0, 0, [], none),
  (17, .ireturn, 1, 0, 0, 0, [], none),
  (18, .aload_n 0, 1, 0, 0, 0, [], none),
  (19, .getfield 30, 3, 8, 3, 0, [], none),
  (22, .dup, 1, 0, 0, 0, [], none),
  (23, .getfield 115, 3, 0, 0, 0, [], none),
  (26, .iconst 1, 1, 0, 0, 0, [], none),
  (27, .isub, 1, 0, 0, 0, [], none),
  (28, .putfield 115, 3, 0, 0, 0, [], none),
  (31, .aload_n 0, 1, 0, 0, 0, [], none),
  (32, .getfield 30, 3, 8, 3, 0, [], none),
  (35, .getfield 115, 3, 0, 0, 0, [], none),
  (38, .istore_n 1, 1, 0, 0, 0, [], none),
  (39, .aload_n 0, 1, 0, 0, 0, [], none),
  (40, .aload_n 0, 1, 0, 0, 0, [], none),
  (41, .getfield 30, 3, 8, 3, 0, [], none),
  (44, .getfield 360, 3, 0, 1, 0, [], none),
  (47, .iload_n 1, 1, 0, 0, 0, [], none),
  (48, .iaload, 1, 0, 0, 0, [], none),
  (49, .aload_n 0, 1, 0, 0, 0, [], none),
  (50, .getfield 30, 3, 8, 3, 0, [], none),
  (53, .getfield 363, 3, 0, 2, 0, [], none),
  (56, .iload_n 1, 1, 0, 0, 0, [], none),
  (57, .iaload, 1, 0, 0, 0, [], none),
  (58, .aload_n 0, 1, 0, 0, 0, [], none),
  (59, .getfield 30, 3, 8, 3, 0, [], none),
  (62, .getfield 366, 3, 0, 3, 0, [], none),
  (65, .iload_n 1, 1, 0, 0, 0, [], none),
  (66, .iaload, 1, 0, 0, 0, [], none),
  (67, .invokevirtual 369, 3, 0, 0, 0, [], some mX8_change),
  (70, .aload_n 0, 1, 0, 0, 0, [], none),
  (71, .iconst 0, 1, 0, 0, 0, [], none),
  (72, .putfield 9, 3, 8, 0, 0, [], none),
  (75, .iconst 1, 1, 0, 0, 0, [], none),
  (76, .ireturn, 1, 0, 0, 0, [], none)]
set_option maxRecDepth 100000 in
theorem kX8_undo : ab_def_ok mX8_undo rX8_undo := ⟨ab_mok_of 1108 99 1106 1107 (by decide +kernel), [0, 392, 238, 0, 0, 0, 0, 389, 0, 0, 0, 392, 0, 238, 0, 0, 238, 0, 392, 238, 0, 0, 0, 392, 240, 0, 0, 0, 392, 242, 0, 0, 0, 392, 244, 0, 0, 1076, 0, 0, 389, 0, 0], by decide +kernel⟩
set_option maxRecDepth 100000 in
set_option maxHeartbeats 100000000 in
theorem vX8_undo_0 {x : ab_Cx} {d mc ms : Nat} {Post : Option ab_V → List ab_Ob → Prop} (hx : ab_At x mX8_undo d mc ms Post) (w0 w1 w2 w3 w4 w5 w6 w7 w8 w9 w10 w11 w12 w13 w14 w15 : ab_Ob) (kc ks : Nat)
    (h : ((1 ≤ (w4.1 0) → ((-2147483648 ≤ (w4.1 0) - 1 ∧ (w4.1 0) - 1 ≤ 2147483647) ∧ ((0 ≤ ((w4.1 0) - 1) ∧ ((w4.1 0) - 1) < (w4.2 1).1) ∧ ((0 ≤ ((w4.1 0) - 1) ∧ ((w4.1 0) - 1) < (w4.2 2).1) ∧ ((0 ≤ ((w4.1 0) - 1) ∧ ((w4.1 0) - 1) < (w4.2 3).1) ∧ (∃ Q1 : Option ab_V → List ab_Ob → Prop, ab_Ct d 0 0 mX8_change [ab_O 0, ab_I ((w4.2 1).2 ((w4.1 0) - 1)), ab_I ((w4.2 2).2 ((w4.1 0) - 1)), ab_I ((w4.2 3).2 ((w4.1 0) - 1))] [w0, w1, w2, w3, (ab_pf w4 0 ((w4.1 0) - 1)), w5, w6, w7, w8, w9, w10, w11, w12, w13, w14, w15] Q1 ∧ (∀ v2 : ab_Ob, ∀ v3 : ab_Ob, ∀ v4 : ab_Ob, Q1 none [v2, w1, w2, v3, (ab_pf w4 0 ((w4.1 0) - 1)), w5, w6, w7, v4, w9, w10, w11, w12, w13, w14, w15] → (((1 : Int) = 0 ∨ (1 : Int) = 1) ∧ Post (some (ab_I 1)) [(ab_pf v2 0 0), w1, w2, v3, (ab_pf w4 0 ((w4.1 0) - 1)), w5, w6, w7, v4, w9, w10, w11, w12, w13, w14, w15])))))))) ∧ (¬ 1 ≤ (w4.1 0) → (((0 : Int) = 0 ∨ (0 : Int) = 1) ∧ Post (some (ab_I 0)) [(ab_pf w0 0 1), w1, w2, w3, w4, w5, w6, w7, w8, w9, w10, w11, w12, w13, w14, w15])))) :
    ab_J x 0 [some (ab_O 0), none] [] [w0, w1, w2, w3, w4, w5, w6, w7, w8, w9, w10, w11, w12, w13, w14, w15] kc ks := ab_go hx kX8_undo.2 42 [] 0 h
def mX8_size : ab_M := ((yX8_size, cX8_size, 2, (some .int)), ([8, 4, 5, 5, 0, 1, 2, 7, 6, 1, 7, 7, 7, 7, 3, 3], [(0, 0), (0, 1), (0, 2), (0, 3), (0, 4), (0, 5), (0, 6), (0, 7), (0, 8), (0, 9), (0, 10), (0, 11), (0, 12), (0, 13), (0, 14), (0, 15)], [false, false, false, false, false, false, false, false, false, false, false, false, false, false, false, false], false, false, 0), (false, 8, 1))
def rX8_size : List ab_R := [(0, .iload_n 1, 1, 0, 0, 0, [], none),
  (1, .tableswitch 56 0 2 #[27, 35, 43], 27, 0, 0, 0, [57, 28, 36, 44], none),
  (28, .aload_n 0, 1, 0, 0, 0, [], none),
  (29, .getfield 16, 3, 8, 1, 0, [], none),
  (32, .getfield 94, 3, 4, 0, 0, [], none),
  (35, .ireturn, 1, 0, 0, 0, [], none),
  (36, .aload_n 0, 1, 0, 0, 0, [], none),
  (37, .getfield 30, 3, 8, 3, 0, [], none),
  (40, .getfield 115, 3, 0, 0, 0, [], none),
  (43, .ireturn, 1, 0, 0, 0, [], none),
  (44, .aload_n 0, 1, 0, 0, 0, [], none),
  (45, .getfield 75, 3, 8, 12, 0, [], none),
  (48, .ifCond .eq 7, 3, 0, 0, 0, [55], none),
  (51, .iconst 1, 1, 0, 0, 0, [], none),
  (52, .goto 4, 3, 0, 0, 0, [56], none),
  (55, .iconst 0, 1, 0, 0, 0, [], none),
  (56, .ireturn, 1, 0, 0, 0, [], none),
  (57, .iconst (-1), 1, 0, 0, 0, [], none),
  (58, .ireturn, 1, 0, 0, 0, [], none)]
set_option maxRecDepth 100000 in
theorem kX8_size : ab_def_ok mX8_size rX8_size := ⟨ab_mok_of 1112 99 1110 1111 (by decide +kernel), [0, 0, 0, 390, 192, 0, 0, 392, 238, 0, 0, 401, 0, 0, 0, 0, 0, 0, 0], by decide +kernel⟩
set_option maxRecDepth 100000 in
set_option maxHeartbeats 100000000 in
theorem vX8_size_0 {x : ab_Cx} {d mc ms : Nat} {Post : Option ab_V → List ab_Ob → Prop} (hx : ab_At x mX8_size d mc ms Post) (a1 : Int) (w0 w1 w2 w3 w4 w5 w6 w7 w8 w9 w10 w11 w12 w13 w14 w15 : ab_Ob) (kc ks : Nat)
    (h : ((a1 < 0 ∨ 2 < a1 → Post (some (ab_I (-1))) [w0, w1, w2, w3, w4, w5, w6, w7, w8, w9, w10, w11, w12, w13, w14, w15]) ∧ ((a1 = 0 → Post (some (ab_I (w1.1 0))) [w0, w1, w2, w3, w4, w5, w6, w7, w8, w9, w10, w11, w12, w13, w14, w15]) ∧ ((a1 = 1 → Post (some (ab_I (w4.1 0))) [w0, w1, w2, w3, w4, w5, w6, w7, w8, w9, w10, w11, w12, w13, w14, w15]) ∧ ((a1 = 2 → (((w0.1 12) = 0 → Post (some (ab_I 0)) [w0, w1, w2, w3, w4, w5, w6, w7, w8, w9, w10, w11, w12, w13, w14, w15]) ∧ (¬ (w0.1 12) = 0 → Post (some (ab_I 1)) [w0, w1, w2, w3, w4, w5, w6, w7, w8, w9, w10, w11, w12, w13, w14, w15]))) ∧ True))))) :
    ab_J x 0 [some (ab_O 0), some (ab_I a1)] [] [w0, w1, w2, w3, w4, w5, w6, w7, w8, w9, w10, w11, w12, w13, w14, w15] kc ks := ab_go hx kX8_size.2 12 [] 0 h
def mX8_trouble : ab_M := ((yX8_trouble, cX8_trouble, 1, (some .int)), ([8, 4, 5, 5, 0, 1, 2, 7, 6, 1, 7, 7, 7, 7, 3, 3], [(0, 0), (0, 1), (0, 2), (0, 3), (0, 4), (0, 5), (0, 6), (0, 7), (0, 8), (0, 9), (0, 10), (0, 11), (0, 12), (0, 13), (0, 14), (0, 15)], [false, false, false, false, false, false, false, false, false, false, false, false, false, false, false, false], false, false, 0), (false, 8, 0))
def rX8_trouble : List ab_R := [(0, .aload_n 0, 1, 0, 0, 0, [], none),
  (1, .getfield 9, 3, 8, 0, 0, [], none),
  (4, .ireturn, 1, 0, 0, 0, [], none)]
set_option maxRecDepth 100000 in
theorem kX8_trouble : ab_def_ok mX8_trouble rX8_trouble := ⟨ab_mok_of 1116 99 1114 1115 (by decide +kernel), [0, 389, 0], by decide +kernel⟩
set_option maxRecDepth 100000 in
set_option maxHeartbeats 100000000 in
theorem vX8_trouble_0 {x : ab_Cx} {d mc ms : Nat} {Post : Option ab_V → List ab_Ob → Prop} (hx : ab_At x mX8_trouble d mc ms Post) (w0 w1 w2 w3 w4 w5 w6 w7 w8 w9 w10 w11 w12 w13 w14 w15 : ab_Ob) (kc ks : Nat)
    (h : Post (some (ab_I (w0.1 0))) [w0, w1, w2, w3, w4, w5, w6, w7, w8, w9, w10, w11, w12, w13, w14, w15]) :
    ab_J x 0 [some (ab_O 0)] [] [w0, w1, w2, w3, w4, w5, w6, w7, w8, w9, w10, w11, w12, w13, w14, w15] kc ks := ab_go hx kX8_trouble.2 7 [] 0 h
