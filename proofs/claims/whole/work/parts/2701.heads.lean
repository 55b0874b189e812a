def mX8_hasNote : ab_M := ((yX8_hasNote, cX8_hasNote, 2, (some .boolean)), ([8, 4, 5, 5, 0, 1, 2, 7, 6, 1, 7, 7, 7, 7, 3, 3], [(0, 0), (0, 1), (0, 2), (0, 3), (0, 4), (0, 5), (0, 6), (0, 7), (0, 8), (0, 9), (0, 10), (0, 11), (0, 12), (0, 13), (0, 14), (0, 15)], [false, false, false, false, false, false, false, false, false, false, false, false, false, false, false, false], false, false, 0), (false, 8, 1))
def rX8_hasNote : List ab_R := [(0, .iload_n 1, 1, 0, 0, 0, [], none),
  (1, .ifCond .lt 18, 3, 0, 0, 0, [19], none),
  (4, .iload_n 1, 1, 0, 0, 0, [], none),
  (5, .aload_n 0, 1, 0, 0, 0, [], none),
  (6, .getfield 23, 3, 8, 2, 0, [], none),
  (9, .getfield 121, 3, 5, 3, 0, [], none),
  (12, .if_icmp .ge 7, 3, 0, 0, 0, [19], none),
  (15, .iconst 1, 1, 0, 0, 0, [], none),
  (16, .goto 4, 3, 0, 0, 0, [20], none),
  (19, .iconst 0, 1, 0, 0, 0, [], none),
  (20, .ireturn, 1, 0, 0, 0, [], none)]
set_option maxRecDepth 100000 in
theorem kX8_hasNote : ab_def_ok mX8_hasNote rX8_hasNote := ⟨ab_mok_of 645 99 644 18 (by decide +kernel), [0, 0, 0, 0, 391, 148, 0, 0, 0, 0, 0], by decide +kernel⟩
set_option maxRecDepth 100000 in
set_option maxHeartbeats 100000000 in
theorem vX8_hasNote_0 {x : ab_Cx} {d mc ms : Nat} {Post : Option ab_V → List ab_Ob → Prop} (hx : ab_At x mX8_hasNote d mc ms Post) (a1 : Int) (w0 w1 w2 w3 w4 w5 w6 w7 w8 w9 w10 w11 w12 w13 w14 w15 : ab_Ob) (kc ks : Nat)
    (h : ((a1 < 0 → (((0 : Int) = 0 ∨ (0 : Int) = 1) ∧ Post (some (ab_I 0)) [w0, w1, w2, w3, w4, w5, w6, w7, w8, w9, w10, w11, w12, w13, w14, w15])) ∧ (¬ a1 < 0 → (((w3.1 3) ≤ a1 → (((0 : Int) = 0 ∨ (0 : Int) = 1) ∧ Post (some (ab_I 0)) [w0, w1, w2, w3, w4, w5, w6, w7, w8, w9, w10, w11, w12, w13, w14, w15])) ∧ (¬ (w3.1 3) ≤ a1 → (((1 : Int) = 0 ∨ (1 : Int) = 1) ∧ Post (some (ab_I 1)) [w0, w1, w2, w3, w4, w5, w6, w7, w8, w9, w10, w11, w12, w13, w14, w15])))))) :
    ab_J x 0 [some (ab_O 0), some (ab_I a1)] [] [w0, w1, w2, w3, w4, w5, w6, w7, w8, w9, w10, w11, w12, w13, w14, w15] kc ks := ab_go hx kX8_hasNote.2 14 [] 0 h
def mX8_freshSpans : ab_M := ((yX8_freshSpans, cX8_freshSpans, 1, (some (.object "HeadTrees$Chart"))), ([8, 4, 5, 5, 0, 1, 2, 7, 6, 1, 7, 7, 7, 7, 3, 3], [(0, 0), (0, 1), (0, 2), (0, 3), (0, 4), (0, 5), (0, 6), (0, 7), (0, 8), (0, 9), (0, 10), (0, 11), (0, 12), (0, 13), (0, 14), (0, 15)], [true, false, false, false, false, true, false, false, false, false, false, false, false, false, false, false], true, true, 5), (false, 8, 0))
def rX8_freshSpans : List ab_R := [(0, .aload_n 0, 1, 0, 0, 0, [], none),
  (1, .getfield 41, 3, 8, 5, 0, [], none),
  (4, .ifCond .ne 19, 3, 0, 0, 0, [23], none),
  (7, .aload_n 0, 1, 0, 0, 0, [], none),
  (8, .getfield 37, 3, 8, 4, 0, [], none),
  (11, .aload_n 0, 1, 0, 0, 0, [], none),
  (12, .getfield 23, 3, 8, 2, 0, [], none),
  (15, .invokevirtual 379, 3, 0, 0, 0, [], some mX1_fill),
  (18, .aload_n 0, 1, 0, 0, 0, [], none),
  (19, .iconst 1, 1, 0, 0, 0, [], none),
  (20, .putfield 41, 3, 8, 5, 0, [], none),
  (23, .aload_n 0, 1, 0, 0, 0, [], none),
  (24, .getfield 37, 3, 8, 4, 0, [], none),
  (27, .areturn, 1, 0, 0, 0, [], none)]
set_option maxRecDepth 100000 in
theorem kX8_freshSpans : ab_def_ok mX8_freshSpans rX8_freshSpans := ⟨ab_mok_of 653 99 652 20 (by decide +kernel), [0, 394, 0, 0, 393, 0, 391, 654, 0, 0, 394, 0, 393, 0], by decide +kernel⟩
set_option maxRecDepth 100000 in
set_option maxHeartbeats 100000000 in
theorem vX8_freshSpans_0 {x : ab_Cx} {d mc ms : Nat} {Post : Option ab_V → List ab_Ob → Prop} (hx : ab_At x mX8_freshSpans d mc ms Post) (w0 w1 w2 w3 w4 w5 w6 w7 w8 w9 w10 w11 w12 w13 w14 w15 : ab_Ob) (kc ks : Nat)
    (h : ((¬ (w0.1 5) = 0 → Post (some (ab_O 5)) [w0, w1, w2, w3, w4, w5, w6, w7, w8, w9, w10, w11, w12, w13, w14, w15]) ∧ ((w0.1 5) = 0 → (∃ mc1 ms2 : Nat, (kc + mc1 ≤ mc ∧ ks + ms2 ≤ ms) ∧ ∃ Q3 : Option ab_V → List ab_Ob → Prop, ab_Ct d mc1 ms2 mX1_fill [ab_O 0, ab_O 1] [w5, w3] Q3 ∧ (∀ v4 : ab_Ob, Q3 none [v4, w3] → (((1 : Int) = 0 ∨ (1 : Int) = 1) ∧ Post (some (ab_O 5)) [(ab_pf w0 5 1), w1, w2, w3, w4, v4, w6, w7, w8, w9, w10, w11, w12, w13, w14, w15])))))) :
    ab_J x 0 [some (ab_O 0)] [] [w0, w1, w2, w3, w4, w5, w6, w7, w8, w9, w10, w11, w12, w13, w14, w15] kc ks := ab_go hx kX8_freshSpans.2 18 [] 0 h
def mX8_freshTree : ab_M := ((yX8_freshTree, cX8_freshTree, 1, (some (.object "HeadTrees$Tree"))), ([8, 4, 5, 5, 0, 1, 2, 7, 6, 1, 7, 7, 7, 7, 3, 3], [(0, 0), (0, 1), (0, 2), (0, 3), (0, 4), (0, 5), (0, 6), (0, 7), (0, 8), (0, 9), (0, 10), (0, 11), (0, 12), (0, 13), (0, 14), (0, 15)], [true, false, false, false, false, true, false, true, false, false, false, false, false, false, false, false], true, true, 7), (false, 8, 0))
def rX8_freshTree : List ab_R := [(0, .aload_n 0, 1, 0, 0, 0, [], none),
  (1, .getfield 62, 3, 8, 9, 0, [], none),
  (4, .ifCond .ne 29, 3, 0, 0, 0, [33], none),
  (7, .aload_n 0, 1, 0, 0, 0, [], none),
  (8, .getfield 58, 3, 8, 8, 0, [], none),
  (11, .aload_n 0, 1, 0, 0, 0, [], none),
  (12, .invokevirtual 188, 3, 0, 0, 0, [], some mX8_freshSpans),
  (15, .iconst 0, 1, 0, 0, 0, [], none),
  (16, .aload_n 0, 1, 0, 0, 0, [], none),
  (17, .getfield 23, 3, 8, 2, 0, [], none),
  (20, .getfield 121, 3, 5, 3, 0, [], none),
  (23, .iconst 1, 1, 0, 0, 0, [], none),
  (24, .isub, 1, 0, 0, 0, [], none),
  (25, .invokevirtual 327, 3, 0, 0, 0, [], some mX7_build),
  (28, .aload_n 0, 1, 0, 0, 0, [], none),
  (29, .iconst 1, 1, 0, 0, 0, [], none),
  (30, .putfield 62, 3, 8, 9, 0, [], none),
  (33, .aload_n 0, 1, 0, 0, 0, [], none),
  (34, .getfield 58, 3, 8, 8, 0, [], none),
  (37, .areturn, 1, 0, 0, 0, [], none)]
set_option maxRecDepth 100000 in
theorem kX8_freshTree : ab_def_ok mX8_freshTree rX8_freshTree := ⟨ab_mok_of 649 99 648 19 (by decide +kernel), [0, 398, 0, 0, 397, 0, 650, 0, 0, 391, 148, 0, 0, 688, 0, 0, 398, 0, 397, 0], by decide +kernel⟩
set_option maxRecDepth 100000 in
set_option maxHeartbeats 100000000 in
theorem vX8_freshTree_0 {x : ab_Cx} {d mc ms : Nat} {Post : Option ab_V → List ab_Ob → Prop} (hx : ab_At x mX8_freshTree d mc ms Post) (w0 w1 w2 w3 w4 w5 w6 w7 w8 w9 w10 w11 w12 w13 w14 w15 : ab_Ob) (kc ks : Nat)
    (h : ((¬ (w0.1 9) = 0 → Post (some (ab_O 7)) [w0, w1, w2, w3, w4, w5, w6, w7, w8, w9, w10, w11, w12, w13, w14, w15]) ∧ ((w0.1 9) = 0 → (∃ mc1 ms2 : Nat, (kc + mc1 ≤ mc ∧ ks + ms2 ≤ ms) ∧ ∃ Q3 : Option ab_V → List ab_Ob → Prop, ab_Ct d mc1 ms2 mX8_freshSpans [ab_O 0] [w0, w1, w2, w3, w4, w5, w6, w7, w8, w9, w10, w11, w12, w13, w14, w15] Q3 ∧ (∀ v4 : ab_Ob, ∀ v5 : ab_Ob, Q3 (some (ab_O 5)) [v4, w1, w2, w3, w4, v5, w6, w7, w8, w9, w10, w11, w12, w13, w14, w15] → ((-2147483648 ≤ (w3.1 3) - 1 ∧ (w3.1 3) - 1 ≤ 2147483647) ∧ (∃ Q6 : Option ab_V → List ab_Ob → Prop, ab_Ct d 0 0 mX7_build [ab_O 0, ab_O 1, ab_I 0, ab_I ((w3.1 3) - 1)] [w7, v5] Q6 ∧ (∀ v7 : ab_Ob, Q6 none [v7, v5] → (((1 : Int) = 0 ∨ (1 : Int) = 1) ∧ Post (some (ab_O 7)) [(ab_pf v4 9 1), w1, w2, w3, w4, v5, w6, v7, w8, w9, w10, w11, w12, w13, w14, w15]))))))))) :
    ab_J x 0 [some (ab_O 0)] [] [w0, w1, w2, w3, w4, w5, w6, w7, w8, w9, w10, w11, w12, w13, w14, w15] kc ks := ab_go hx kX8_freshTree.2 24 [] 0 h
def mX8_note : ab_M := ((yX8_note, cX8_note, 3, (some .int)), ([8, 4, 5, 5, 0, 1, 2, 7, 6, 1, 7, 7, 7, 7, 3, 3], [(0, 0), (0, 1), (0, 2), (0, 3), (0, 4), (0, 5), (0, 6), (0, 7), (0, 8), (0, 9), (0, 10), (0, 11), (0, 12), (0, 13), (0, 14), (0, 15)], [true, false, false, false, false, true, false, true, false, false, false, false, false, false, false, false], true, true, 0), (false, 8, 2))
def rX8_note : List ab_R := [(0, .aload_n 0, 1, 0, 0, 0, [], none),
  (1, .iload_n 1, 1, 0, 0, 0, [], none),
  (2, .invokevirtual 151, 3, 0, 0, 0, [], some mX8_hasNote),
  (5, .ifCond .ne 9, 3, 0, 0, 0, [14], none),
  (8, .aload_n 0, 1, 0, 0, 0, [], none),
  (9, .iconst 1, 1, 0, 0, 0, [], none),
  (10, .invokevirtual 101, 3, 0, 0, 0, [], some mX8_refuse),
  (13, .ireturn, 1, 0, 0, 0, [], none),
  (14, .iload_n 2, 1, 0, 0, 0, [], none),
  (15, .tableswitch 120 0 5 #[37, 51, 65, 79, 93, 107], 37, 0, 0, 0, [135, 52, 66, 80, 94, 108, 122], none),
  (52, .aload_n 0, 1, 0, 0, 0, [], none),
  (53, .aload_n 0, 1, 0, 0, 0, [], none),
  (54, .getfield 23, 3, 8, 2, 0, [], none),
  (57, .getfield 155, 3, 5, 4, 0, [], none),
  (60, .iload_n 1, 1, 0, 0, 0, [], none),
  (61, .iaload, 1, 0, 0, 0, [], none),
  (62, .invokevirtual 124, 3, 0, 0, 0, [], some mX8_grant),
  (65, .ireturn, 1, 0, 0, 0, [], none),
  (66, .aload_n 0, 1, 0, 0, 0, [], none),
  (67, .aload_n 0, 1, 0, 0, 0, [], none),
  (68, .getfield 23, 3, 8, 2, 0, [], none),
  (71, .getfield 159, 3, 5, 5, 0, [], none),
  (74, .iload_n 1, 1, 0, 0, 0, [], none),
  (75, .iaload, 1, 0, 0, 0, [], none),
  (76, .invokevirtual 124, 3, 0, 0, 0, [], some mX8_grant),
  (79, .ireturn, 1, 0, 0, 0, [], none),
  (80, .aload_n 0, 1, 0, 0, 0, [], none),
  (81, .aload_n 0, 1, 0, 0, 0, [], none),
  (82, .getfield 23, 3, 8, 2, 0, [], none),
  (85, .getfield 162, 3, 5, 7, 0, [], none),
  (88, .iload_n 1, 1, 0, 0, 0, [], none),
  (89, .iaload, 1, 0, 0, 0, [], none),
  (90, .invokevirtual 124, 3, 0, 0, 0, [], some mX8_grant),
  (93, .ireturn, 1, 0, 0, 0, [], none),
  (94, .aload_n 0, 1, 0, 0, 0, [], none),
  (95, .aload_n 0, 1, 0, 0, 0, [], none),
  (96, .getfield 23, 3, 8, 2, 0, [], none),
  (99, .getfield 165, 3, 5, 8, 0, [], none),
  (102, .iload_n 1, 1, 0, 0, 0, [], none),
  (103, .iaload, 1, 0, 0, 0, [], none),
  (104, .invokevirtual 124, 3, 0, 0, 0, [], some mX8_grant),
  (107, .ireturn, 1, 0, 0, 0, [], none),
  (108, .aload_n 0, 1, 0, 0, 0, [], none),
  (109, .aload_n 0, 1, 0, 0, 0, [], none),
  (110, .getfield 23, 3, 8, 2, 0, [], none),
  (113, .getfield 168, 3, 5, 9, 0, [], none),
  (116, .iload_n 1, 1, 0, 0, 0, [], none),
  (117, .iaload, 1, 0, 0, 0, [], none),
  (118, .invokevirtual 124, 3, 0, 0, 0, [], some mX8_grant),
  (121, .ireturn, 1, 0, 0, 0, [], none),
  (122, .aload_n 0, 1, 0, 0, 0, [], none),
  (123, .aload_n 0, 1, 0, 0, 0, [], none),
  (124, .invokevirtual 171, 3, 0, 0, 0, [], some mX8_freshTree),
  (127, .iload_n 1, 1, 0, 0, 0, [], none),
  (128, .invokevirtual 175, 3, 0, 0, 0, [], some mX7_rank),
  (131, .invokevirtual 124, 3, 0, 0, 0, [], some mX8_grant),
  (134, .ireturn, 1, 0, 0, 0, [], none),
  (135, .aload_n 0, 1, 0, 0, 0, [], none),
  (136, .iconst 1, 1, 0, 0, 0, [], none),
  (137, .invokevirtual 101, 3, 0, 0, 0, [], some mX8_refuse),
  (140, .ireturn, 1, 0, 0, 0, [], none)]
set_option maxRecDepth 100000 in
theorem kX8_note : ab_def_ok mX8_note rX8_note := ⟨ab_mok_of 641 99 639 640 (by decide +kernel), [0, 0, 642, 0, 0, 0, 453, 0, 0, 0, 0, 0, 391, 154, 0, 0, 610, 0, 0, 0, 391, 156, 0, 0, 610, 0, 0, 0, 391, 163, 0, 0, 610, 0, 0, 0, 391, 165, 0, 0, 610, 0, 0, 0, 391, 167, 0, 0, 610, 0, 0, 0, 646, 0, 725, 610, 0, 0, 0, 453, 0], by decide +kernel⟩
set_option maxRecDepth 100000 in
set_option maxHeartbeats 100000000 in
theorem vX8_note_0 {x : ab_Cx} {d mc ms : Nat} {Post : Option ab_V → List ab_Ob → Prop} (hx : ab_At x mX8_note d mc ms Post) (a1 a2 : Int) (w0 w1 w2 w3 w4 w5 w6 w7 w8 w9 w10 w11 w12 w13 w14 w15 : ab_Ob) (kc ks : Nat)
    (h : (∃ Q1 : Option ab_V → List ab_Ob → Prop, ab_Ct d 0 0 mX8_hasNote [ab_O 0, ab_I a1] [w0, w1, w2, w3, w4, w5, w6, w7, w8, w9, w10, w11, w12, w13, w14, w15] Q1 ∧ (∀ r2 : Int, Q1 (some (ab_I r2)) [w0, w1, w2, w3, w4, w5, w6, w7, w8, w9, w10, w11, w12, w13, w14, w15] → ((¬ r2 = 0 → ((a2 < 0 ∨ 5 < a2 → (∃ Q29 : Option ab_V → List ab_Ob → Prop, ab_Ct d 0 0 mX8_refuse [ab_O 0, ab_I 1] [w0, w1, w2, w3, w4, w5, w6, w7, w8, w9, w10, w11, w12, w13, w14, w15] Q29 ∧ (∀ r30 : Int, ∀ v31 : ab_Ob, Q29 (some (ab_I r30)) [v31, w1, w2, w3, w4, w5, w6, w7, w8, w9, w10, w11, w12, w13, w14, w15] → Post (some (ab_I r30)) [v31, w1, w2, w3, w4, w5, w6, w7, w8, w9, w10, w11, w12, w13, w14, w15]))) ∧ ((a2 = 0 → ((0 ≤ a1 ∧ a1 < (w3.2 4).1) ∧ (∃ Q26 : Option ab_V → List ab_Ob → Prop, ab_Ct d 0 0 mX8_grant [ab_O 0, ab_I ((w3.2 4).2 a1)] [w0, w1, w2, w3, w4, w5, w6, w7, w8, w9, w10, w11, w12, w13, w14, w15] Q26 ∧ (∀ r27 : Int, ∀ v28 : ab_Ob, Q26 (some (ab_I r27)) [v28, w1, w2, w3, w4, w5, w6, w7, w8, w9, w10, w11, w12, w13, w14, w15] → Post (some (ab_I r27)) [v28, w1, w2, w3, w4, w5, w6, w7, w8, w9, w10, w11, w12, w13, w14, w15])))) ∧ ((a2 = 1 → ((0 ≤ a1 ∧ a1 < (w3.2 5).1) ∧ (∃ Q23 : Option ab_V → List ab_Ob → Prop, ab_Ct d 0 0 mX8_grant [ab_O 0, ab_I ((w3.2 5).2 a1)] [w0, w1, w2, w3, w4, w5, w6, w7, w8, w9, w10, w11, w12, w13, w14, w15] Q23 ∧ (∀ r24 : Int, ∀ v25 : ab_Ob, Q23 (some (ab_I r24)) [v25, w1, w2, w3, w4, w5, w6, w7, w8, w9, w10, w11, w12, w13, w14, w15] → Post (some (ab_I r24)) [v25, w1, w2, w3, w4, w5, w6, w7, w8, w9, w10, w11, w12, w13, w14, w15])))) ∧ ((a2 = 2 → ((0 ≤ a1 ∧ a1 < (w3.2 7).1) ∧ (∃ Q20 : Option ab_V → List ab_Ob → Prop, ab_Ct d 0 0 mX8_grant [ab_O 0, ab_I ((w3.2 7).2 a1)] [w0, w1, w2, w3, w4, w5, w6, w7, w8, w9, w10, w11, w12, w13, w14, w15] Q20 ∧ (∀ r21 : Int, ∀ v22 : ab_Ob, Q20 (some (ab_I r21)) [v22, w1, w2, w3, w4, w5, w6, w7, w8, w9, w10, w11, w12, w13, w14, w15] → Post (some (ab_I r21)) [v22, w1, w2, w3, w4, w5, w6, w7, w8, w9, w10, w11, w12, w13, w14, w15])))) ∧ ((a2 = 3 → ((0 ≤ a1 ∧ a1 < (w3.2 8).1) ∧ (∃ Q17 : Option ab_V → List ab_Ob → Prop, ab_Ct d 0 0 mX8_grant [ab_O 0, ab_I ((w3.2 8).2 a1)] [w0, w1, w2, w3, w4, w5, w6, w7, w8, w9, w10, w11, w12, w13, w14, w15] Q17 ∧ (∀ r18 : Int, ∀ v19 : ab_Ob, Q17 (some (ab_I r18)) [v19, w1, w2, w3, w4, w5, w6, w7, w8, w9, w10, w11, w12, w13, w14, w15] → Post (some (ab_I r18)) [v19, w1, w2, w3, w4, w5, w6, w7, w8, w9, w10, w11, w12, w13, w14, w15])))) ∧ ((a2 = 4 → ((0 ≤ a1 ∧ a1 < (w3.2 9).1) ∧ (∃ Q14 : Option ab_V → List ab_Ob → Prop, ab_Ct d 0 0 mX8_grant [ab_O 0, ab_I ((w3.2 9).2 a1)] [w0, w1, w2, w3, w4, w5, w6, w7, w8, w9, w10, w11, w12, w13, w14, w15] Q14 ∧ (∀ r15 : Int, ∀ v16 : ab_Ob, Q14 (some (ab_I r15)) [v16, w1, w2, w3, w4, w5, w6, w7, w8, w9, w10, w11, w12, w13, w14, w15] → Post (some (ab_I r15)) [v16, w1, w2, w3, w4, w5, w6, w7, w8, w9, w10, w11, w12, w13, w14, w15])))) ∧ ((a2 = 5 → (∃ mc3 ms4 : Nat, (kc + mc3 ≤ mc ∧ ks + ms4 ≤ ms) ∧ ∃ Q5 : Option ab_V → List ab_Ob → Prop, ab_Ct d mc3 ms4 mX8_freshTree [ab_O 0] [w0, w1, w2, w3, w4, w5, w6, w7, w8, w9, w10, w11, w12, w13, w14, w15] Q5 ∧ (∀ v6 : ab_Ob, ∀ v7 : ab_Ob, ∀ v8 : ab_Ob, Q5 (some (ab_O 7)) [v6, w1, w2, w3, w4, v7, w6, v8, w8, w9, w10, w11, w12, w13, w14, w15] → (∃ Q9 : Option ab_V → List ab_Ob → Prop, ab_Ct d 0 0 mX7_rank [ab_O 0, ab_I a1] [v8] Q9 ∧ (∀ r10 : Int, Q9 (some (ab_I r10)) [v8] → (∃ Q11 : Option ab_V → List ab_Ob → Prop, ab_Ct d 0 0 mX8_grant [ab_O 0, ab_I r10] [v6, w1, w2, w3, w4, v7, w6, v8, w8, w9, w10, w11, w12, w13, w14, w15] Q11 ∧ (∀ r12 : Int, ∀ v13 : ab_Ob, Q11 (some (ab_I r12)) [v13, w1, w2, w3, w4, v7, w6, v8, w8, w9, w10, w11, w12, w13, w14, w15] → Post (some (ab_I r12)) [v13, w1, w2, w3, w4, v7, w6, v8, w8, w9, w10, w11, w12, w13, w14, w15]))))))) ∧ True)))))))) ∧ (r2 = 0 → (∃ Q32 : Option ab_V → List ab_Ob → Prop, ab_Ct d 0 0 mX8_refuse [ab_O 0, ab_I 1] [w0, w1, w2, w3, w4, w5, w6, w7, w8, w9, w10, w11, w12, w13, w14, w15] Q32 ∧ (∀ r33 : Int, ∀ v34 : ab_Ob, Q32 (some (ab_I r33)) [v34, w1, w2, w3, w4, w5, w6, w7, w8, w9, w10, w11, w12, w13, w14, w15] → Post (some (ab_I r33)) [v34, w1, w2, w3, w4, w5, w6, w7, w8, w9, w10, w11, w12, w13, w14, w15]))))))) :
    ab_J x 0 [some (ab_O 0), some (ab_I a1), some (ab_I a2)] [] [w0, w1, w2, w3, w4, w5, w6, w7, w8, w9, w10, w11, w12, w13, w14, w15] kc ks := ab_go hx kX8_note.2 18 [] 0 h
