/-! cutLayer, its mask for both targets; what calls it -/
def mX8_cutLayerB : ab_M := ((yX8_cutLayer, cX8_cutLayer, 4, (some .int)), ([8, 4, 5, 5, 0, 1, 2, 7, 6, 1, 7, 7, 7, 7, 3, 3], [(0, 0), (0, 1), (0, 2), (0, 3), (0, 4), (0, 5), (0, 6), (0, 7), (0, 8), (0, 9), (0, 10), (0, 11), (0, 12), (0, 13), (0, 14), (0, 15)], [true, false, false, false, false, true, false, true, false, false, false, false, false, false, true, true], true, true, 0), (false, 8, 2))
def rX8_cutLayerB : List ab_R := [(0, .aload_n 0, 1, 0, 0, 0, [], none),
  (1, .invokevirtual 130, 3, 0, 0, 0, [], some mX8_hasPiece),
  (4, .ifCond .ne 5, 3, 0, 0, 0, [9], none),
  (7, .iconst 1, 1, 0, 0, 0, [], none),
  (8, .ireturn, 1, 0, 0, 0, [], none),
  (9, .aload_n 0, 1, 0, 0, 0, [], none),
  (10, .invokevirtual 171, 3, 0, 0, 0, [], some mX8_freshTree),
  (13, .astore_n 3, 1, 0, 0, 0, [], none),
  (14, .iload_n 2, 1, 0, 0, 0, [], none),
  (15, .ifCond .lt 11, 3, 0, 0, 0, [26], none),
  (18, .iload_n 2, 1, 0, 0, 0, [], none),
  (19, .aload_n 3, 1, 0, 0, 0, [], none),
  (20, .invokevirtual 259, 3, 0, 0, 0, [], some mX7_greatestDepth),
  (23, .if_icmp .le 5, 3, 0, 0, 0, [28], none),
  (26, .iconst 2, 1, 0, 0, 0, [], none),
  (27, .ireturn, 1, 0, 0, 0, [], none),
  (28, .aload_n 1, 1, 0, 0, 0, [], none),
  (29, .aload_n 3, 1, 0, 0, 0, [], none),
  (30, .iload_n 2, 1, 0, 0, 0, [], none),
  (31, .aload_n 0, 1, 0, 0, 0, [], none),
  (32, .getfield 23, 3, 8, 2, 0, [], none),
  (35, .getfield 121, 3, 5, 3, 0, [], none),
  (38, .invokevirtual 382, 3, 0, 0, 0, [], some mX3_cut),
  (41, .iconst 0, 1, 0, 0, 0, [], none),
  (42, .ireturn, 1, 0, 0, 0, [], none)]
set_option maxRecDepth 100000 in
theorem kX8_cutLayerB : ab_def_ok mX8_cutLayerB rX8_cutLayerB := ⟨ab_mok_of 872 99 871 33 (by decide +kernel), [0, 626, 0, 0, 0, 0, 646, 0, 0, 0, 0, 0, 858, 0, 0, 0, 0, 0, 0, 0, 391, 148, 873, 0, 0], by decide +kernel⟩
set_option maxRecDepth 100000 in
set_option maxHeartbeats 100000000 in
theorem vX8_cutLayerB_14_0 {x : ab_Cx} {d mc ms : Nat} {Post : Option ab_V → List ab_Ob → Prop} (hx : ab_At x mX8_cutLayerB d mc ms Post) (a2 : Int) (w0 w1 w2 w3 w4 w5 w6 w7 w8 w9 w10 w11 w12 w13 w14 w15 : ab_Ob) (kc ks : Nat)
    (h : (∃ Q1 : Option ab_V → List ab_Ob → Prop, ab_Ct d 0 0 mX8_hasPiece [ab_O 0] [w0, w1, w2, w3, w4, w5, w6, w7, w8, w9, w10, w11, w12, w13, w14, w15] Q1 ∧ (∀ r2 : Int, Q1 (some (ab_I r2)) [w0, w1, w2, w3, w4, w5, w6, w7, w8, w9, w10, w11, w12, w13, w14, w15] → ((¬ r2 = 0 → (∃ mc3 ms4 : Nat, (kc + mc3 ≤ mc ∧ ks + ms4 ≤ ms) ∧ ∃ Q5 : Option ab_V → List ab_Ob → Prop, ab_Ct d mc3 ms4 mX8_freshTree [ab_O 0] [w0, w1, w2, w3, w4, w5, w6, w7, w8, w9, w10, w11, w12, w13, w14, w15] Q5 ∧ (∀ v6 : ab_Ob, ∀ v7 : ab_Ob, ∀ v8 : ab_Ob, Q5 (some (ab_O 7)) [v6, w1, w2, w3, w4, v7, w6, v8, w8, w9, w10, w11, w12, w13, w14, w15] → ((a2 < 0 → Post (some (ab_I 2)) [v6, w1, w2, w3, w4, v7, w6, v8, w8, w9, w10, w11, w12, w13, w14, w15]) ∧ (¬ a2 < 0 → (∃ Q9 : Option ab_V → List ab_Ob → Prop, ab_Ct d 0 0 mX7_greatestDepth [ab_O 0] [v8] Q9 ∧ (∀ r10 : Int, Q9 (some (ab_I r10)) [v8] → ((a2 ≤ r10 → (∃ Q11 : Option ab_V → List ab_Ob → Prop, ab_Ct d 0 0 mX3_cut [ab_O 0, ab_O 1, ab_I a2, ab_I (w3.1 3)] [w14, v8] Q11 ∧ (∀ v12 : ab_Ob, Q11 none [v12, v8] → Post (some (ab_I 0)) [v6, w1, w2, w3, w4, v7, w6, v8, w8, w9, w10, w11, w12, w13, v12, w15]))) ∧ (¬ a2 ≤ r10 → Post (some (ab_I 2)) [v6, w1, w2, w3, w4, v7, w6, v8, w8, w9, w10, w11, w12, w13, w14, w15]))))))))) ∧ (r2 = 0 → Post (some (ab_I 1)) [w0, w1, w2, w3, w4, w5, w6, w7, w8, w9, w10, w11, w12, w13, w14, w15]))))) :
    ab_J x 0 [some (ab_O 0), some (ab_O 14), some (ab_I a2), none] [] [w0, w1, w2, w3, w4, w5, w6, w7, w8, w9, w10, w11, w12, w13, w14, w15] kc ks := ab_go hx kX8_cutLayerB.2 25 [] 0 h
set_option maxRecDepth 100000 in
set_option maxHeartbeats 100000000 in
theorem vX8_cutLayerB_15_0 {x : ab_Cx} {d mc ms : Nat} {Post : Option ab_V → List ab_Ob → Prop} (hx : ab_At x mX8_cutLayerB d mc ms Post) (a2 : Int) (w0 w1 w2 w3 w4 w5 w6 w7 w8 w9 w10 w11 w12 w13 w14 w15 : ab_Ob) (kc ks : Nat)
    (h : (∃ Q1 : Option ab_V → List ab_Ob → Prop, ab_Ct d 0 0 mX8_hasPiece [ab_O 0] [w0, w1, w2, w3, w4, w5, w6, w7, w8, w9, w10, w11, w12, w13, w14, w15] Q1 ∧ (∀ r2 : Int, Q1 (some (ab_I r2)) [w0, w1, w2, w3, w4, w5, w6, w7, w8, w9, w10, w11, w12, w13, w14, w15] → ((¬ r2 = 0 → (∃ mc3 ms4 : Nat, (kc + mc3 ≤ mc ∧ ks + ms4 ≤ ms) ∧ ∃ Q5 : Option ab_V → List ab_Ob → Prop, ab_Ct d mc3 ms4 mX8_freshTree [ab_O 0] [w0, w1, w2, w3, w4, w5, w6, w7, w8, w9, w10, w11, w12, w13, w14, w15] Q5 ∧ (∀ v6 : ab_Ob, ∀ v7 : ab_Ob, ∀ v8 : ab_Ob, Q5 (some (ab_O 7)) [v6, w1, w2, w3, w4, v7, w6, v8, w8, w9, w10, w11, w12, w13, w14, w15] → ((a2 < 0 → Post (some (ab_I 2)) [v6, w1, w2, w3, w4, v7, w6, v8, w8, w9, w10, w11, w12, w13, w14, w15]) ∧ (¬ a2 < 0 → (∃ Q9 : Option ab_V → List ab_Ob → Prop, ab_Ct d 0 0 mX7_greatestDepth [ab_O 0] [v8] Q9 ∧ (∀ r10 : Int, Q9 (some (ab_I r10)) [v8] → ((a2 ≤ r10 → (∃ Q11 : Option ab_V → List ab_Ob → Prop, ab_Ct d 0 0 mX3_cut [ab_O 0, ab_O 1, ab_I a2, ab_I (w3.1 3)] [w15, v8] Q11 ∧ (∀ v12 : ab_Ob, Q11 none [v12, v8] → Post (some (ab_I 0)) [v6, w1, w2, w3, w4, v7, w6, v8, w8, w9, w10, w11, w12, w13, w14, v12]))) ∧ (¬ a2 ≤ r10 → Post (some (ab_I 2)) [v6, w1, w2, w3, w4, v7, w6, v8, w8, w9, w10, w11, w12, w13, w14, w15]))))))))) ∧ (r2 = 0 → Post (some (ab_I 1)) [w0, w1, w2, w3, w4, w5, w6, w7, w8, w9, w10, w11, w12, w13, w14, w15]))))) :
    ab_J x 0 [some (ab_O 0), some (ab_O 15), some (ab_I a2), none] [] [w0, w1, w2, w3, w4, w5, w6, w7, w8, w9, w10, w11, w12, w13, w14, w15] kc ks := ab_go hx kX8_cutLayerB.2 25 [] 0 h
def mX8_levelB : ab_M := ((yX8_level, cX8_level, 3, (some .int)), ([8, 4, 5, 5, 0, 1, 2, 7, 6, 1, 7, 7, 7, 7, 3, 3], [(0, 0), (0, 1), (0, 2), (0, 3), (0, 4), (0, 5), (0, 6), (0, 7), (0, 8), (0, 9), (0, 10), (0, 11), (0, 12), (0, 13), (0, 14), (0, 15)], [true, false, false, false, false, true, false, true, false, false, false, false, false, false, true, true], true, true, 0), (false, 8, 1))
def rX8_levelB : List ab_R := [(0, .aload_n 0, 1, 0, 0, 0, [], none),
  (1, .aload_n 0, 1, 0, 0, 0, [], none),
  (2, .getfield 87, 3, 8, 15, 0, [], none),
  (5, .iload_n 1, 1, 0, 0, 0, [], none),
  (6, .invokevirtual 262, 3, 0, 0, 0, [], some mX8_cutLayerB),
  (9, .istore_n 2, 1, 0, 0, 0, [], none),
  (10, .iload_n 2, 1, 0, 0, 0, [], none),
  (11, .ifCond .ne 17, 3, 0, 0, 0, [28], none),
  (14, .aload_n 0, 1, 0, 0, 0, [], none),
  (15, .aload_n 0, 1, 0, 0, 0, [], none),
  (16, .getfield 87, 3, 8, 15, 0, [], none),
  (19, .getfield 266, 3, 3, 0, 0, [], none),
  (22, .invokevirtual 124, 3, 0, 0, 0, [], some mX8_grant),
  (25, .goto 8, 3, 0, 0, 0, [33], none),
  (28, .aload_n 0, 1, 0, 0, 0, [], none),
  (29, .iload_n 2, 1, 0, 0, 0, [], none),
  (30, .invokevirtual 101, 3, 0, 0, 0, [], some mX8_refuse),
  (33, .ireturn, 1, 0, 0, 0, [], none)]
set_option maxRecDepth 100000 in
theorem kX8_levelB : ab_def_ok mX8_levelB rX8_levelB := ⟨ab_mok_of 868 99 866 867 (by decide +kernel), [0, 0, 404, 0, 869, 0, 0, 0, 0, 0, 404, 373, 610, 0, 0, 0, 453, 0], by decide +kernel⟩
set_option maxRecDepth 100000 in
set_option maxHeartbeats 100000000 in
theorem vX8_levelB_0 {x : ab_Cx} {d mc ms : Nat} {Post : Option ab_V → List ab_Ob → Prop} (hx : ab_At x mX8_levelB d mc ms Post) (a1 : Int) (w0 w1 w2 w3 w4 w5 w6 w7 w8 w9 w10 w11 w12 w13 w14 w15 : ab_Ob) (kc ks : Nat)
    (h : (∃ mc1 ms2 : Nat, (kc + mc1 ≤ mc ∧ ks + ms2 ≤ ms) ∧ ∃ Q3 : Option ab_V → List ab_Ob → Prop, ab_Ct d mc1 ms2 mX8_cutLayerB [ab_O 0, ab_O 14, ab_I a1] [w0, w1, w2, w3, w4, w5, w6, w7, w8, w9, w10, w11, w12, w13, w14, w15] Q3 ∧ (∀ r4 : Int, ∀ v5 : ab_Ob, ∀ v6 : ab_Ob, ∀ v7 : ab_Ob, ∀ v8 : ab_Ob, ∀ v9 : ab_Ob, Q3 (some (ab_I r4)) [v5, w1, w2, w3, w4, v6, w6, v7, w8, w9, w10, w11, w12, w13, v8, v9] → ((¬ r4 = 0 → (∃ Q10 : Option ab_V → List ab_Ob → Prop, ab_Ct d 0 0 mX8_refuse [ab_O 0, ab_I r4] [v5, w1, w2, w3, w4, v6, w6, v7, w8, w9, w10, w11, w12, w13, v8, v9] Q10 ∧ (∀ r11 : Int, ∀ v12 : ab_Ob, Q10 (some (ab_I r11)) [v12, w1, w2, w3, w4, v6, w6, v7, w8, w9, w10, w11, w12, w13, v8, v9] → Post (some (ab_I r11)) [v12, w1, w2, w3, w4, v6, w6, v7, w8, w9, w10, w11, w12, w13, v8, v9]))) ∧ (r4 = 0 → (∃ Q13 : Option ab_V → List ab_Ob → Prop, ab_Ct d 0 0 mX8_grant [ab_O 0, ab_I (v8.1 0)] [v5, w1, w2, w3, w4, v6, w6, v7, w8, w9, w10, w11, w12, w13, v8, v9] Q13 ∧ (∀ r14 : Int, ∀ v15 : ab_Ob, Q13 (some (ab_I r14)) [v15, w1, w2, w3, w4, v6, w6, v7, w8, w9, w10, w11, w12, w13, v8, v9] → Post (some (ab_I r14)) [v15, w1, w2, w3, w4, v6, w6, v7, w8, w9, w10, w11, w12, w13, v8, v9]))))))) :
    ab_J x 0 [some (ab_O 0), some (ab_I a1), none] [] [w0, w1, w2, w3, w4, w5, w6, w7, w8, w9, w10, w11, w12, w13, w14, w15] kc ks := ab_go hx kX8_levelB.2 19 [] 0 h
def mX8_levelNoteB : ab_M := ((yX8_levelNote, cX8_levelNote, 5, (some .int)), ([8, 4, 5, 5, 0, 1, 2, 7, 6, 1, 7, 7, 7, 7, 3, 3], [(0, 0), (0, 1), (0, 2), (0, 3), (0, 4), (0, 5), (0, 6), (0, 7), (0, 8), (0, 9), (0, 10), (0, 11), (0, 12), (0, 13), (0, 14), (0, 15)], [true, false, false, false, false, true, false, true, false, false, false, false, false, false, true, true], true, true, 0), (false, 8, 3))
def rX8_levelNoteB : List ab_R := [(0, .aload_n 0, 1, 0, 0, 0, [], none),
  (1, .aload_n 0, 1, 0, 0, 0, [], none),
  (2, .getfield 87, 3, 8, 15, 0, [], none),
  (5, .iload_n 1, 1, 0, 0, 0, [], none),
  (6, .invokevirtual 262, 3, 0, 0, 0, [], some mX8_cutLayerB),
  (9, .istore 4, 2, 0, 0, 0, [], none),
  (11, .iload 4, 2, 0, 0, 0, [], none),
  (13, .ifCond .eq 10, 3, 0, 0, 0, [23], none),
  (16, .aload_n 0, 1, 0, 0, 0, [], none),
  (17, .iload 4, 2, 0, 0, 0, [], none),
  (19, .invokevirtual 101, 3, 0, 0, 0, [], some mX8_refuse),
  (22, .ireturn, 1, 0, 0, 0, [], none),
  (23, .iload_n 2, 1, 0, 0, 0, [], none),
  (24, .ifCond .lt 14, 3, 0, 0, 0, [38], none),
  (27, .iload_n 2, 1, 0, 0, 0, [], none),
  (28, .aload_n 0, 1, 0, 0, 0, [], none),
  (29, .getfield 87, 3, 8, 15, 0, [], none),
  (32, .getfield 266, 3, 3, 0, 0, [], none),
  (35, .if_icmp .lt 9, 3, 0, 0, 0, [44], none),
  (38, .aload_n 0, 1, 0, 0, 0, [], none),
  (39, .iconst 1, 1, 0, 0, 0, [], none),
  (40, .invokevirtual 101, 3, 0, 0, 0, [], some mX8_refuse),
  (43, .ireturn, 1, 0, 0, 0, [], none),
  (44, .iload_n 3, 1, 0, 0, 0, [], none),
  (45, .tableswitch 93 0 2 #[27, 41, 63], 27, 0, 0, 0, [138, 72, 86, 108], none),
  (72, .aload_n 0, 1, 0, 0, 0, [], none),
  (73, .aload_n 0, 1, 0, 0, 0, [], none),
  (74, .getfield 87, 3, 8, 15, 0, [], none),
  (77, .getfield 267, 3, 3, 1, 0, [], none),
  (80, .iload_n 2, 1, 0, 0, 0, [], none),
  (81, .iaload, 1, 0, 0, 0, [], none),
  (82, .invokevirtual 124, 3, 0, 0, 0, [], some mX8_grant),
  (85, .ireturn, 1, 0, 0, 0, [], none),
  (86, .aload_n 0, 1, 0, 0, 0, [], none),
  (87, .aload_n 0, 1, 0, 0, 0, [], none),
  (88, .getfield 23, 3, 8, 2, 0, [], none),
  (91, .getfield 162, 3, 5, 7, 0, [], none),
  (94, .aload_n 0, 1, 0, 0, 0, [], none),
  (95, .getfield 87, 3, 8, 15, 0, [], none),
  (98, .getfield 270, 3, 3, 2, 0, [], none),
  (101, .iload_n 2, 1, 0, 0, 0, [], none),
  (102, .iaload, 1, 0, 0, 0, [], none),
  (103, .iaload, 1, 0, 0, 0, [], none),
  (104, .invokevirtual 124, 3, 0, 0, 0, [], some mX8_grant),
  (107, .ireturn, 1, 0, 0, 0, [], none),
  (108, .aload_n 0, 1, 0, 0, 0, [], none),
  (109, .aload_n 0, 1, 0, 0, 0, [], none),
  (110, .getfield 23, 3, 8, 2, 0, [], none),
  (113, .aload_n 0, 1, 0, 0, 0, [], none),
  (114, .getfield 87, 3, 8, 15, 0, [], none),
  (117, .getfield 270, 3, 3, 2, 0, [], none),
  (120, .iload_n 2, 1, 0, 0, 0, [], none),
  (121, .iaload, 1, 0, 0, 0, [], none),
  (122, .aload_n 0, 1, 0, 0, 0, [], none),
  (123, .getfield 87, 3, 8, 15, 0, [], none),
  (126, .getfield 271, 3, 3, 3, 0, [], none),
  (129, .iload_n 2, 1, 0, 0, 0, [], none),
  (130, .iaload, 1, 0, 0, 0, [], none),
  (131, .invokevirtual 143, 3, 0, 0, 0, [], some mX5_lasting),
  (134, .invokevirtual 124, 3, 0, 0, 0, [], some mX8_grant),
  (137, .ireturn, 1, 0, 0, 0, [], none),
  (138, .aload_n 0, 1, 0, 0, 0, [], none),
  (139, .iconst 1, 1, 0, 0, 0, [], none),
  (140, .invokevirtual 101, 3, 0, 0, 0, [], some mX8_refuse),
  (143, .ireturn, 1, 0, 0, 0, [], none)]
set_option maxRecDepth 100000 in
theorem kX8_levelNoteB : ab_def_ok mX8_levelNoteB rX8_levelNoteB := ⟨ab_mok_of 880 99 878 879 (by decide +kernel), [0, 0, 404, 0, 869, 0, 0, 0, 0, 0, 453, 0, 0, 0, 0, 0, 404, 373, 0, 0, 0, 453, 0, 0, 0, 0, 0, 404, 375, 0, 0, 610, 0, 0, 0, 391, 163, 0, 404, 377, 0, 0, 0, 610, 0, 0, 0, 391, 0, 404, 377, 0, 0, 0, 404, 379, 0, 0, 630, 610, 0, 0, 0, 453, 0], by decide +kernel⟩
set_option maxRecDepth 100000 in
set_option maxHeartbeats 100000000 in
theorem vX8_levelNoteB_0 {x : ab_Cx} {d mc ms : Nat} {Post : Option ab_V → List ab_Ob → Prop} (hx : ab_At x mX8_levelNoteB d mc ms Post) (a1 a2 a3 : Int) (w0 w1 w2 w3 w4 w5 w6 w7 w8 w9 w10 w11 w12 w13 w14 w15 : ab_Ob) (kc ks : Nat)
    (h : (∃ mc1 ms2 : Nat, (kc + mc1 ≤ mc ∧ ks + ms2 ≤ ms) ∧ ∃ Q3 : Option ab_V → List ab_Ob → Prop, ab_Ct d mc1 ms2 mX8_cutLayerB [ab_O 0, ab_O 14, ab_I a1] [w0, w1, w2, w3, w4, w5, w6, w7, w8, w9, w10, w11, w12, w13, w14, w15] Q3 ∧ (∀ r4 : Int, ∀ v5 : ab_Ob, ∀ v6 : ab_Ob, ∀ v7 : ab_Ob, ∀ v8 : ab_Ob, ∀ v9 : ab_Ob, Q3 (some (ab_I r4)) [v5, w1, w2, w3, w4, v6, w6, v7, w8, w9, w10, w11, w12, w13, v8, v9] → ((r4 = 0 → ((a2 < 0 → (∃ Q10 : Option ab_V → List ab_Ob → Prop, ab_Ct d 0 0 mX8_refuse [ab_O 0, ab_I 1] [v5, w1, w2, w3, w4, v6, w6, v7, w8, w9, w10, w11, w12, w13, v8, v9] Q10 ∧ (∀ r11 : Int, ∀ v12 : ab_Ob, Q10 (some (ab_I r11)) [v12, w1, w2, w3, w4, v6, w6, v7, w8, w9, w10, w11, w12, w13, v8, v9] → Post (some (ab_I r11)) [v12, w1, w2, w3, w4, v6, w6, v7, w8, w9, w10, w11, w12, w13, v8, v9]))) ∧ (¬ a2 < 0 → ((a2 < (v8.1 0) → ((a3 < 0 ∨ 2 < a3 → (∃ Q24 : Option ab_V → List ab_Ob → Prop, ab_Ct d 0 0 mX8_refuse [ab_O 0, ab_I 1] [v5, w1, w2, w3, w4, v6, w6, v7, w8, w9, w10, w11, w12, w13, v8, v9] Q24 ∧ (∀ r25 : Int, ∀ v26 : ab_Ob, Q24 (some (ab_I r25)) [v26, w1, w2, w3, w4, v6, w6, v7, w8, w9, w10, w11, w12, w13, v8, v9] → Post (some (ab_I r25)) [v26, w1, w2, w3, w4, v6, w6, v7, w8, w9, w10, w11, w12, w13, v8, v9]))) ∧ ((a3 = 0 → ((0 ≤ a2 ∧ a2 < (v8.2 1).1) ∧ (∃ Q21 : Option ab_V → List ab_Ob → Prop, ab_Ct d 0 0 mX8_grant [ab_O 0, ab_I ((v8.2 1).2 a2)] [v5, w1, w2, w3, w4, v6, w6, v7, w8, w9, w10, w11, w12, w13, v8, v9] Q21 ∧ (∀ r22 : Int, ∀ v23 : ab_Ob, Q21 (some (ab_I r22)) [v23, w1, w2, w3, w4, v6, w6, v7, w8, w9, w10, w11, w12, w13, v8, v9] → Post (some (ab_I r22)) [v23, w1, w2, w3, w4, v6, w6, v7, w8, w9, w10, w11, w12, w13, v8, v9])))) ∧ ((a3 = 1 → ((0 ≤ a2 ∧ a2 < (v8.2 2).1) ∧ ((0 ≤ ((v8.2 2).2 a2) ∧ ((v8.2 2).2 a2) < (w3.2 7).1) ∧ (∃ Q18 : Option ab_V → List ab_Ob → Prop, ab_Ct d 0 0 mX8_grant [ab_O 0, ab_I ((w3.2 7).2 ((v8.2 2).2 a2))] [v5, w1, w2, w3, w4, v6, w6, v7, w8, w9, w10, w11, w12, w13, v8, v9] Q18 ∧ (∀ r19 : Int, ∀ v20 : ab_Ob, Q18 (some (ab_I r19)) [v20, w1, w2, w3, w4, v6, w6, v7, w8, w9, w10, w11, w12, w13, v8, v9] → Post (some (ab_I r19)) [v20, w1, w2, w3, w4, v6, w6, v7, w8, w9, w10, w11, w12, w13, v8, v9]))))) ∧ ((a3 = 2 → ((0 ≤ a2 ∧ a2 < (v8.2 2).1) ∧ ((0 ≤ a2 ∧ a2 < (v8.2 3).1) ∧ (∃ Q13 : Option ab_V → List ab_Ob → Prop, ab_Ct d 0 0 mX5_lasting [ab_O 0, ab_I ((v8.2 2).2 a2), ab_I ((v8.2 3).2 a2)] [w3] Q13 ∧ (∀ r14 : Int, Q13 (some (ab_I r14)) [w3] → (∃ Q15 : Option ab_V → List ab_Ob → Prop, ab_Ct d 0 0 mX8_grant [ab_O 0, ab_I r14] [v5, w1, w2, w3, w4, v6, w6, v7, w8, w9, w10, w11, w12, w13, v8, v9] Q15 ∧ (∀ r16 : Int, ∀ v17 : ab_Ob, Q15 (some (ab_I r16)) [v17, w1, w2, w3, w4, v6, w6, v7, w8, w9, w10, w11, w12, w13, v8, v9] → Post (some (ab_I r16)) [v17, w1, w2, w3, w4, v6, w6, v7, w8, w9, w10, w11, w12, w13, v8, v9]))))))) ∧ True))))) ∧ (¬ a2 < (v8.1 0) → (∃ Q27 : Option ab_V → List ab_Ob → Prop, ab_Ct d 0 0 mX8_refuse [ab_O 0, ab_I 1] [v5, w1, w2, w3, w4, v6, w6, v7, w8, w9, w10, w11, w12, w13, v8, v9] Q27 ∧ (∀ r28 : Int, ∀ v29 : ab_Ob, Q27 (some (ab_I r28)) [v29, w1, w2, w3, w4, v6, w6, v7, w8, w9, w10, w11, w12, w13, v8, v9] → Post (some (ab_I r28)) [v29, w1, w2, w3, w4, v6, w6, v7, w8, w9, w10, w11, w12, w13, v8, v9]))))))) ∧ (¬ r4 = 0 → (∃ Q30 : Option ab_V → List ab_Ob → Prop, ab_Ct d 0 0 mX8_refuse [ab_O 0, ab_I r4] [v5, w1, w2, w3, w4, v6, w6, v7, w8, w9, w10, w11, w12, w13, v8, v9] Q30 ∧ (∀ r31 : Int, ∀ v32 : ab_Ob, Q30 (some (ab_I r31)) [v32, w1, w2, w3, w4, v6, w6, v7, w8, w9, w10, w11, w12, w13, v8, v9] → Post (some (ab_I r31)) [v32, w1, w2, w3, w4, v6, w6, v7, w8, w9, w10, w11, w12, w13, v8, v9]))))))) :
    ab_J x 0 [some (ab_O 0), some (ab_I a1), some (ab_I a2), some (ab_I a3), none] [] [w0, w1, w2, w3, w4, w5, w6, w7, w8, w9, w10, w11, w12, w13, w14, w15] kc ks := ab_go hx kX8_levelNoteB.2 37 [] 0 h
def mX8_pathB : ab_M := ((yX8_path, cX8_path, 5, (some .int)), ([8, 4, 5, 5, 0, 1, 2, 7, 6, 1, 7, 7, 7, 7, 3, 3], [(0, 0), (0, 1), (0, 2), (0, 3), (0, 4), (0, 5), (0, 6), (0, 7), (0, 8), (0, 9), (0, 10), (0, 11), (0, 12), (0, 13), (0, 14), (0, 15)], [true, false, false, false, false, true, false, true, false, false, false, false, false, false, true, true], true, true, 0), (false, 8, 1))
def rX8_pathB : List ab_R := [(0, .aload_n 0, 1, 0, 0, 0, [], none),
  (1, .aload_n 0, 1, 0, 0, 0, [], none),
  (2, .getfield 87, 3, 8, 15, 0, [], none),
  (5, .iload_n 1, 1, 0, 0, 0, [], none),
  (6, .invokevirtual 262, 3, 0, 0, 0, [], some mX8_cutLayerB),
  (9, .istore_n 2, 1, 0, 0, 0, [], none),
  (10, .iload_n 2, 1, 0, 0, 0, [], none),
  (11, .ifCond .eq 9, 3, 0, 0, 0, [20], none),
  (14, .aload_n 0, 1, 0, 0, 0, [], none),
  (15, .iload_n 2, 1, 0, 0, 0, [], none),
  (16, .invokevirtual 101, 3, 0, 0, 0, [], some mX8_refuse),
  (19, .ireturn, 1, 0, 0, 0, [], none),
  (20, .iconst 0, 1, 0, 0, 0, [], none),
  (21, .istore_n 3, 1, 0, 0, 0, [], none),
  (22, .iconst 0, 1, 0, 0, 0, [], none),
  (23, .istore 4, 2, 0, 0, 0, [], none),
  (25, .iload 4, 2, 0, 0, 0, [], none),
  (27, .iconst 1, 1, 0, 0, 0, [], none),
  (28, .iadd, 1, 0, 0, 0, [], none),
  (29, .aload_n 0, 1, 0, 0, 0, [], none),
  (30, .getfield 87, 3, 8, 15, 0, [], none),
  (33, .getfield 266, 3, 3, 0, 0, [], none),
  (36, .if_icmp .ge 28, 3, 0, 0, 0, [64], none),
  (39, .iload_n 3, 1, 0, 0, 0, [], none),
  (40, .aload_n 0, 1, 0, 0, 0, [], none),
  (41, .getfield 87, 3, 8, 15, 0, [], none),
  (44, .aload_n 0, 1, 0, 0, 0, [], none),
  (45, .getfield 23, 3, 8, 2, 0, [], none),
  (48, .iload 4, 2, 0, 0, 0, [], none),
  (50, .invokevirtual 272, 3, 0, 0, 0, [], some mX3_stepFrom),
  (53, .invokestatic 275, 3, 0, 0, 12, [], none),
  (56, .iadd, 1, 0, 0, 0, [], none),
  (57, .istore_n 3, 1, 0, 0, 0, [], none),
  (58, .iinc 4 1, 3, 0, 0, 0, [], none),
  (61, .goto (-36), 3, 0, 0, 0, [25], none),
  (64, .aload_n 0, 1, 0, 0, 0, [], none),
  (65, .iload_n 3, 1, 0, 0, 0, [], none),
  (66, .invokevirtual 124, 3, 0, 0, 0, [], some mX8_grant),
  (69, .ireturn, 1, 0, 0, 0, [], none)]
set_option maxRecDepth 100000 in
theorem kX8_pathB : ab_def_ok mX8_pathB rX8_pathB := ⟨ab_mok_of 884 99 882 883 (by decide +kernel), [0, 0, 404, 0, 869, 0, 0, 0, 0, 0, 453, 0, 0, 0, 0, 0, 0, 0, 0, 0, 404, 373, 0, 0, 0, 404, 0, 391, 0, 885, 889, 0, 0, 0, 0, 0, 0, 610, 0], by decide +kernel⟩
set_option maxRecDepth 100000 in
set_option maxHeartbeats 100000000 in
theorem vX8_pathB_0 {x : ab_Cx} {d mc ms : Nat} {Post : Option ab_V → List ab_Ob → Prop} (hx : ab_At x mX8_pathB d mc ms Post) (a1 : Int) (w0 w1 w2 w3 w4 w5 w6 w7 w8 w9 w10 w11 w12 w13 w14 w15 : ab_Ob) (kc ks : Nat)
    (h : (∃ mc1 ms2 : Nat, (kc + mc1 ≤ mc ∧ ks + ms2 ≤ ms) ∧ ∃ Q3 : Option ab_V → List ab_Ob → Prop, ab_Ct d mc1 ms2 mX8_cutLayerB [ab_O 0, ab_O 14, ab_I a1] [w0, w1, w2, w3, w4, w5, w6, w7, w8, w9, w10, w11, w12, w13, w14, w15] Q3 ∧ (∀ r4 : Int, ∀ v5 : ab_Ob, ∀ v6 : ab_Ob, ∀ v7 : ab_Ob, ∀ v8 : ab_Ob, ∀ v9 : ab_Ob, Q3 (some (ab_I r4)) [v5, w1, w2, w3, w4, v6, w6, v7, w8, w9, w10, w11, w12, w13, v8, v9] → ((r4 = 0 → ab_J x 25 [some (ab_O 0), none, none, some (ab_I 0), some (ab_I 0)] [] [v5, w1, w2, w3, w4, v6, w6, v7, w8, w9, w10, w11, w12, w13, v8, v9] (kc + mc1) (ks + ms2)) ∧ (¬ r4 = 0 → (∃ Q10 : Option ab_V → List ab_Ob → Prop, ab_Ct d 0 0 mX8_refuse [ab_O 0, ab_I r4] [v5, w1, w2, w3, w4, v6, w6, v7, w8, w9, w10, w11, w12, w13, v8, v9] Q10 ∧ (∀ r11 : Int, ∀ v12 : ab_Ob, Q10 (some (ab_I r11)) [v12, w1, w2, w3, w4, v6, w6, v7, w8, w9, w10, w11, w12, w13, v8, v9] → Post (some (ab_I r11)) [v12, w1, w2, w3, w4, v6, w6, v7, w8, w9, w10, w11, w12, w13, v8, v9]))))))) :
    ab_J x 0 [some (ab_O 0), some (ab_I a1), none, none, none] [] [w0, w1, w2, w3, w4, w5, w6, w7, w8, w9, w10, w11, w12, w13, w14, w15] kc ks := ab_go hx kX8_pathB.2 17 [(25, [true, false, false, true, true])] 0 h
set_option maxRecDepth 100000 in
set_option maxHeartbeats 100000000 in
theorem vX8_pathB_25 {x : ab_Cx} {d mc ms : Nat} {Post : Option ab_V → List ab_Ob → Prop} (hx : ab_At x mX8_pathB d mc ms Post) (l3 l4 : Int) (w0 w1 w2 w3 w4 w5 w6 w7 w8 w9 w10 w11 w12 w13 w14 w15 : ab_Ob) (kc ks : Nat)
    (h : ((-2147483648 ≤ l4 + 1 ∧ l4 + 1 ≤ 2147483647) ∧ (((w14.1 0) ≤ (l4 + 1) → (∃ Q1 : Option ab_V → List ab_Ob → Prop, ab_Ct d 0 0 mX8_grant [ab_O 0, ab_I l3] [w0, w1, w2, w3, w4, w5, w6, w7, w8, w9, w10, w11, w12, w13, w14, w15] Q1 ∧ (∀ r2 : Int, ∀ v3 : ab_Ob, Q1 (some (ab_I r2)) [v3, w1, w2, w3, w4, w5, w6, w7, w8, w9, w10, w11, w12, w13, w14, w15] → Post (some (ab_I r2)) [v3, w1, w2, w3, w4, w5, w6, w7, w8, w9, w10, w11, w12, w13, w14, w15]))) ∧ (¬ (w14.1 0) ≤ (l4 + 1) → (∃ Q4 : Option ab_V → List ab_Ob → Prop, ab_Ct d 0 0 mX3_stepFrom [ab_O 0, ab_O 1, ab_I l4] [w14, w3] Q4 ∧ (∀ r5 : Int, Q4 (some (ab_I r5)) [w14, w3] → ((-2147483648 ≤ -r5 ∧ -r5 ≤ 2147483647) ∧ ((-2147483648 ≤ l3 + (if 0 ≤ r5 then r5 else 0 - r5) ∧ l3 + (if 0 ≤ r5 then r5 else 0 - r5) ≤ 2147483647) ∧ ((-2147483648 ≤ l4 + 1 ∧ l4 + 1 ≤ 2147483647) ∧ ab_J x 25 [some (ab_O 0), none, none, some (ab_I (l3 + (if 0 ≤ r5 then r5 else 0 - r5))), some (ab_I (l4 + 1))] [] [w0, w1, w2, w3, w4, w5, w6, w7, w8, w9, w10, w11, w12, w13, w14, w15] kc ks))))))))) :
    ab_J x 25 [some (ab_O 0), none, none, some (ab_I l3), some (ab_I l4)] [] [w0, w1, w2, w3, w4, w5, w6, w7, w8, w9, w10, w11, w12, w13, w14, w15] kc ks := ab_go hx kX8_pathB.2 24 [(25, [true, false, false, true, true])] 25 h
def mX8_climaxB : ab_M := ((yX8_climax, cX8_climax, 5, (some .int)), ([8, 4, 5, 5, 0, 1, 2, 7, 6, 1, 7, 7, 7, 7, 3, 3], [(0, 0), (0, 1), (0, 2), (0, 3), (0, 4), (0, 5), (0, 6), (0, 7), (0, 8), (0, 9), (0, 10), (0, 11), (0, 12), (0, 13), (0, 14), (0, 15)], [true, false, false, false, false, true, false, true, false, false, false, false, false, false, true, true], true, true, 0), (false, 8, 1))
def rX8_climaxB : List ab_R := [(0, .aload_n 0, 1, 0, 0, 0, [], none),
  (1, .aload_n 0, 1, 0, 0, 0, [], none),
  (2, .getfield 87, 3, 8, 15, 0, [], none),
  (5, .iload_n 1, 1, 0, 0, 0, [], none),
  (6, .invokevirtual 262, 3, 0, 0, 0, [], some mX8_cutLayerB),
  (9, .istore_n 2, 1, 0, 0, 0, [], none),
  (10, .iload_n 2, 1, 0, 0, 0, [], none),
  (11, .ifCond .eq 9, 3, 0, 0, 0, [20], none),
  (14, .aload_n 0, 1, 0, 0, 0, [], none),
  (15, .iload_n 2, 1, 0, 0, 0, [], none),
  (16, .invokevirtual 101, 3, 0, 0, 0, [], some mX8_refuse),
  (19, .ireturn, 1, 0, 0, 0, [], none),
  (20, .aload_n 0, 1, 0, 0, 0, [], none),
  (21, .getfield 87, 3, 8, 15, 0, [], none),
  (24, .getfield 267, 3, 3, 1, 0, [], none),
  (27, .iconst 0, 1, 0, 0, 0, [], none),
  (28, .iaload, 1, 0, 0, 0, [], none),
  (29, .istore_n 3, 1, 0, 0, 0, [], none),
  (30, .iconst 1, 1, 0, 0, 0, [], none),
  (31, .istore 4, 2, 0, 0, 0, [], none),
  (33, .iload 4, 2, 0, 0, 0, [], none),
  (35, .aload_n 0, 1, 0, 0, 0, [], none),
  (36, .getfield 87, 3, 8, 15, 0, [], none),
  (39, .getfield 266, 3, 3, 0, 0, [], none),
  (42, .if_icmp .ge 50, 3, 0, 0, 0, [92], none),
  (45, .aload_n 0, 1, 0, 0, 0, [], none),
  (46, .getfield 23, 3, 8, 2, 0, [], none),
  (49, .getfield 155, 3, 5, 4, 0, [], none),
  (52, .aload_n 0, 1, 0, 0, 0, [], none),
  (53, .getfield 87, 3, 8, 15, 0, [], none),
  (56, .getfield 267, 3, 3, 1, 0, [], none),
  (59, .iload 4, 2, 0, 0, 0, [], none),
  (61, .iaload, 1, 0, 0, 0, [], none),
  (62, .iaload, 1, 0, 0, 0, [], none),
  (63, .aload_n 0, 1, 0, 0, 0, [], none),
  (64, .getfield 23, 3, 8, 2, 0, [], none),
  (67, .getfield 155, 3, 5, 4, 0, [], none),
  (70, .iload_n 3, 1, 0, 0, 0, [], none),
  (71, .iaload, 1, 0, 0, 0, [], none),
  (72, .if_icmp .le 14, 3, 0, 0, 0, [86], none),
  (75, .aload_n 0, 1, 0, 0, 0, [], none),
  (76, .getfield 87, 3, 8, 15, 0, [], none),
  (79, .getfield 267, 3, 3, 1, 0, [], none),
  (82, .iload 4, 2, 0, 0, 0, [], none),
  (84, .iaload, 1, 0, 0, 0, [], none),
  (85, .istore_n 3, 1, 0, 0, 0, [], none),
  (86, .iinc 4 1, 3, 0, 0, 0, [], none),
  (89, .goto (-56), 3, 0, 0, 0, [33], none),
  (92, .aload_n 0, 1, 0, 0, 0, [], none),
  (93, .iload_n 3, 1, 0, 0, 0, [], none),
  (94, .invokevirtual 124, 3, 0, 0, 0, [], some mX8_grant),
  (97, .ireturn, 1, 0, 0, 0, [], none)]
set_option maxRecDepth 100000 in
theorem kX8_climaxB : ab_def_ok mX8_climaxB rX8_climaxB := ⟨ab_mok_of 909 99 907 908 (by decide +kernel), [0, 0, 404, 0, 869, 0, 0, 0, 0, 0, 453, 0, 0, 404, 375, 0, 0, 0, 0, 0, 0, 0, 404, 373, 0, 0, 391, 154, 0, 404, 375, 0, 0, 0, 0, 391, 154, 0, 0, 0, 0, 404, 375, 0, 0, 0, 0, 0, 0, 0, 610, 0], by decide +kernel⟩
set_option maxRecDepth 100000 in
set_option maxHeartbeats 100000000 in
theorem vX8_climaxB_0 {x : ab_Cx} {d mc ms : Nat} {Post : Option ab_V → List ab_Ob → Prop} (hx : ab_At x mX8_climaxB d mc ms Post) (a1 : Int) (w0 w1 w2 w3 w4 w5 w6 w7 w8 w9 w10 w11 w12 w13 w14 w15 : ab_Ob) (kc ks : Nat)
    (h : (∃ mc1 ms2 : Nat, (kc + mc1 ≤ mc ∧ ks + ms2 ≤ ms) ∧ ∃ Q3 : Option ab_V → List ab_Ob → Prop, ab_Ct d mc1 ms2 mX8_cutLayerB [ab_O 0, ab_O 14, ab_I a1] [w0, w1, w2, w3, w4, w5, w6, w7, w8, w9, w10, w11, w12, w13, w14, w15] Q3 ∧ (∀ r4 : Int, ∀ v5 : ab_Ob, ∀ v6 : ab_Ob, ∀ v7 : ab_Ob, ∀ v8 : ab_Ob, ∀ v9 : ab_Ob, Q3 (some (ab_I r4)) [v5, w1, w2, w3, w4, v6, w6, v7, w8, w9, w10, w11, w12, w13, v8, v9] → ((r4 = 0 → ((0 ≤ (0 : Int) ∧ (0 : Int) < (v8.2 1).1) ∧ ab_J x 33 [some (ab_O 0), none, none, some (ab_I ((v8.2 1).2 0)), some (ab_I 1)] [] [v5, w1, w2, w3, w4, v6, w6, v7, w8, w9, w10, w11, w12, w13, v8, v9] (kc + mc1) (ks + ms2))) ∧ (¬ r4 = 0 → (∃ Q10 : Option ab_V → List ab_Ob → Prop, ab_Ct d 0 0 mX8_refuse [ab_O 0, ab_I r4] [v5, w1, w2, w3, w4, v6, w6, v7, w8, w9, w10, w11, w12, w13, v8, v9] Q10 ∧ (∀ r11 : Int, ∀ v12 : ab_Ob, Q10 (some (ab_I r11)) [v12, w1, w2, w3, w4, v6, w6, v7, w8, w9, w10, w11, w12, w13, v8, v9] → Post (some (ab_I r11)) [v12, w1, w2, w3, w4, v6, w6, v7, w8, w9, w10, w11, w12, w13, v8, v9]))))))) :
    ab_J x 0 [some (ab_O 0), some (ab_I a1), none, none, none] [] [w0, w1, w2, w3, w4, w5, w6, w7, w8, w9, w10, w11, w12, w13, w14, w15] kc ks := ab_go hx kX8_climaxB.2 21 [(33, [true, false, false, true, true])] 0 h
set_option maxRecDepth 100000 in
set_option maxHeartbeats 100000000 in
theorem vX8_climaxB_33 {x : ab_Cx} {d mc ms : Nat} {Post : Option ab_V → List ab_Ob → Prop} (hx : ab_At x mX8_climaxB d mc ms Post) (l3 l4 : Int) (w0 w1 w2 w3 w4 w5 w6 w7 w8 w9 w10 w11 w12 w13 w14 w15 : ab_Ob) (kc ks : Nat)
    (h : (((w14.1 0) ≤ l4 → (∃ Q1 : Option ab_V → List ab_Ob → Prop, ab_Ct d 0 0 mX8_grant [ab_O 0, ab_I l3] [w0, w1, w2, w3, w4, w5, w6, w7, w8, w9, w10, w11, w12, w13, w14, w15] Q1 ∧ (∀ r2 : Int, ∀ v3 : ab_Ob, Q1 (some (ab_I r2)) [v3, w1, w2, w3, w4, w5, w6, w7, w8, w9, w10, w11, w12, w13, w14, w15] → Post (some (ab_I r2)) [v3, w1, w2, w3, w4, w5, w6, w7, w8, w9, w10, w11, w12, w13, w14, w15]))) ∧ (¬ (w14.1 0) ≤ l4 → ((0 ≤ l4 ∧ l4 < (w14.2 1).1) ∧ ((0 ≤ ((w14.2 1).2 l4) ∧ ((w14.2 1).2 l4) < (w3.2 4).1) ∧ ((0 ≤ l3 ∧ l3 < (w3.2 4).1) ∧ ((((w3.2 4).2 ((w14.2 1).2 l4)) ≤ ((w3.2 4).2 l3) → ((-2147483648 ≤ l4 + 1 ∧ l4 + 1 ≤ 2147483647) ∧ ab_J x 33 [some (ab_O 0), none, none, some (ab_I l3), some (ab_I (l4 + 1))] [] [w0, w1, w2, w3, w4, w5, w6, w7, w8, w9, w10, w11, w12, w13, w14, w15] kc ks)) ∧ (¬ ((w3.2 4).2 ((w14.2 1).2 l4)) ≤ ((w3.2 4).2 l3) → ((0 ≤ l4 ∧ l4 < (w14.2 1).1) ∧ ((-2147483648 ≤ l4 + 1 ∧ l4 + 1 ≤ 2147483647) ∧ ab_J x 33 [some (ab_O 0), none, none, some (ab_I ((w14.2 1).2 l4)), some (ab_I (l4 + 1))] [] [w0, w1, w2, w3, w4, w5, w6, w7, w8, w9, w10, w11, w12, w13, w14, w15] kc ks)))))))))) :
    ab_J x 33 [some (ab_O 0), none, none, some (ab_I l3), some (ab_I l4)] [] [w0, w1, w2, w3, w4, w5, w6, w7, w8, w9, w10, w11, w12, w13, w14, w15] kc ks := ab_go hx kX8_climaxB.2 33 [(33, [true, false, false, true, true])] 33 h
def mX8_widestB : ab_M := ((yX8_widest, cX8_widest, 5, (some .int)), ([8, 4, 5, 5, 0, 1, 2, 7, 6, 1, 7, 7, 7, 7, 3, 3], [(0, 0), (0, 1), (0, 2), (0, 3), (0, 4), (0, 5), (0, 6), (0, 7), (0, 8), (0, 9), (0, 10), (0, 11), (0, 12), (0, 13), (0, 14), (0, 15)], [true, false, false, false, false, true, false, true, false, false, false, false, false, false, true, true], true, true, 0), (false, 8, 1))
def rX8_widestB : List ab_R := [(0, .aload_n 0, 1, 0, 0, 0, [], none),
  (1, .aload_n 0, 1, 0, 0, 0, [], none),
  (2, .getfield 87, 3, 8, 15, 0, [], none),
  (5, .iload_n 1, 1, 0, 0, 0, [], none),
  (6, .invokevirtual 262, 3, 0, 0, 0, [], some mX8_cutLayerB),
  (9, .istore_n 2, 1, 0, 0, 0, [], none),
  (10, .iload_n 2, 1, 0, 0, 0, [], none),
  (11, .ifCond .eq 9, 3, 0, 0, 0, [20], none),
  (14, .aload_n 0, 1, 0, 0, 0, [], none),
  (15, .iload_n 2, 1, 0, 0, 0, [], none),
  (16, .invokevirtual 101, 3, 0, 0, 0, [], some mX8_refuse),
  (19, .ireturn, 1, 0, 0, 0, [], none),
  (20, .iconst 0, 1, 0, 0, 0, [], none),
  (21, .istore_n 3, 1, 0, 0, 0, [], none),
  (22, .iconst 0, 1, 0, 0, 0, [], none),
  (23, .istore 4, 2, 0, 0, 0, [], none),
  (25, .iload 4, 2, 0, 0, 0, [], none),
  (27, .iconst 1, 1, 0, 0, 0, [], none),
  (28, .iadd, 1, 0, 0, 0, [], none),
  (29, .aload_n 0, 1, 0, 0, 0, [], none),
  (30, .getfield 87, 3, 8, 15, 0, [], none),
  (33, .getfield 266, 3, 3, 0, 0, [], none),
  (36, .if_icmp .ge 30, 3, 0, 0, 0, [66], none),
  (39, .iload_n 3, 1, 0, 0, 0, [], none),
  (40, .aload_n 0, 1, 0, 0, 0, [], none),
  (41, .getfield 87, 3, 8, 15, 0, [], none),
  (44, .aload_n 0, 1, 0, 0, 0, [], none),
  (45, .getfield 23, 3, 8, 2, 0, [], none),
  (48, .iload 4, 2, 0, 0, 0, [], none),
  (50, .invokevirtual 272, 3, 0, 0, 0, [], some mX3_stepFrom),
  (53, .invokestatic 275, 3, 0, 0, 12, [], none),
  (56, .invokestatic 287, 3, 0, 0, 10, [], none),
  (59, .istore_n 3, 1, 0, 0, 0, [], none),
  (60, .iinc 4 1, 3, 0, 0, 0, [], none),
  (63, .goto (-38), 3, 0, 0, 0, [25], none),
  (66, .aload_n 0, 1, 0, 0, 0, [], none),
  (67, .iload_n 3, 1, 0, 0, 0, [], none),
  (68, .invokevirtual 124, 3, 0, 0, 0, [], some mX8_grant),
  (71, .ireturn, 1, 0, 0, 0, [], none)]
set_option maxRecDepth 100000 in
theorem kX8_widestB : ab_def_ok mX8_widestB rX8_widestB := ⟨ab_mok_of 913 99 911 912 (by decide +kernel), [0, 0, 404, 0, 869, 0, 0, 0, 0, 0, 453, 0, 0, 0, 0, 0, 0, 0, 0, 0, 404, 373, 0, 0, 0, 404, 0, 391, 0, 885, 889, 914, 0, 0, 0, 0, 0, 610, 0], by decide +kernel⟩
set_option maxRecDepth 100000 in
set_option maxHeartbeats 100000000 in
theorem vX8_widestB_0 {x : ab_Cx} {d mc ms : Nat} {Post : Option ab_V → List ab_Ob → Prop} (hx : ab_At x mX8_widestB d mc ms Post) (a1 : Int) (w0 w1 w2 w3 w4 w5 w6 w7 w8 w9 w10 w11 w12 w13 w14 w15 : ab_Ob) (kc ks : Nat)
    (h : (∃ mc1 ms2 : Nat, (kc + mc1 ≤ mc ∧ ks + ms2 ≤ ms) ∧ ∃ Q3 : Option ab_V → List ab_Ob → Prop, ab_Ct d mc1 ms2 mX8_cutLayerB [ab_O 0, ab_O 14, ab_I a1] [w0, w1, w2, w3, w4, w5, w6, w7, w8, w9, w10, w11, w12, w13, w14, w15] Q3 ∧ (∀ r4 : Int, ∀ v5 : ab_Ob, ∀ v6 : ab_Ob, ∀ v7 : ab_Ob, ∀ v8 : ab_Ob, ∀ v9 : ab_Ob, Q3 (some (ab_I r4)) [v5, w1, w2, w3, w4, v6, w6, v7, w8, w9, w10, w11, w12, w13, v8, v9] → ((r4 = 0 → ab_J x 25 [some (ab_O 0), none, none, some (ab_I 0), some (ab_I 0)] [] [v5, w1, w2, w3, w4, v6, w6, v7, w8, w9, w10, w11, w12, w13, v8, v9] (kc + mc1) (ks + ms2)) ∧ (¬ r4 = 0 → (∃ Q10 : Option ab_V → List ab_Ob → Prop, ab_Ct d 0 0 mX8_refuse [ab_O 0, ab_I r4] [v5, w1, w2, w3, w4, v6, w6, v7, w8, w9, w10, w11, w12, w13, v8, v9] Q10 ∧ (∀ r11 : Int, ∀ v12 : ab_Ob, Q10 (some (ab_I r11)) [v12, w1, w2, w3, w4, v6, w6, v7, w8, w9, w10, w11, w12, w13, v8, v9] → Post (some (ab_I r11)) [v12, w1, w2, w3, w4, v6, w6, v7, w8, w9, w10, w11, w12, w13, v8, v9]))))))) :
    ab_J x 0 [some (ab_O 0), some (ab_I a1), none, none, none] [] [w0, w1, w2, w3, w4, w5, w6, w7, w8, w9, w10, w11, w12, w13, w14, w15] kc ks := ab_go hx kX8_widestB.2 17 [(25, [true, false, false, true, true])] 0 h
set_option maxRecDepth 100000 in
set_option maxHeartbeats 100000000 in
theorem vX8_widestB_25 {x : ab_Cx} {d mc ms : Nat} {Post : Option ab_V → List ab_Ob → Prop} (hx : ab_At x mX8_widestB d mc ms Post) (l3 l4 : Int) (w0 w1 w2 w3 w4 w5 w6 w7 w8 w9 w10 w11 w12 w13 w14 w15 : ab_Ob) (kc ks : Nat)
    (h : ((-2147483648 ≤ l4 + 1 ∧ l4 + 1 ≤ 2147483647) ∧ (((w14.1 0) ≤ (l4 + 1) → (∃ Q1 : Option ab_V → List ab_Ob → Prop, ab_Ct d 0 0 mX8_grant [ab_O 0, ab_I l3] [w0, w1, w2, w3, w4, w5, w6, w7, w8, w9, w10, w11, w12, w13, w14, w15] Q1 ∧ (∀ r2 : Int, ∀ v3 : ab_Ob, Q1 (some (ab_I r2)) [v3, w1, w2, w3, w4, w5, w6, w7, w8, w9, w10, w11, w12, w13, w14, w15] → Post (some (ab_I r2)) [v3, w1, w2, w3, w4, w5, w6, w7, w8, w9, w10, w11, w12, w13, w14, w15]))) ∧ (¬ (w14.1 0) ≤ (l4 + 1) → (∃ Q4 : Option ab_V → List ab_Ob → Prop, ab_Ct d 0 0 mX3_stepFrom [ab_O 0, ab_O 1, ab_I l4] [w14, w3] Q4 ∧ (∀ r5 : Int, Q4 (some (ab_I r5)) [w14, w3] → ((-2147483648 ≤ -r5 ∧ -r5 ≤ 2147483647) ∧ ((-2147483648 ≤ l4 + 1 ∧ l4 + 1 ≤ 2147483647) ∧ ab_J x 25 [some (ab_O 0), none, none, some (ab_I (if l3 < (if 0 ≤ r5 then r5 else 0 - r5) then (if 0 ≤ r5 then r5 else 0 - r5) else l3)), some (ab_I (l4 + 1))] [] [w0, w1, w2, w3, w4, w5, w6, w7, w8, w9, w10, w11, w12, w13, w14, w15] kc ks)))))))) :
    ab_J x 25 [some (ab_O 0), none, none, some (ab_I l3), some (ab_I l4)] [] [w0, w1, w2, w3, w4, w5, w6, w7, w8, w9, w10, w11, w12, w13, w14, w15] kc ks := ab_go hx kX8_widestB.2 24 [(25, [true, false, false, true, true])] 25 h
def mX8_echoB : ab_M := ((yX8_echo, cX8_echo, 6, (some .int)), ([8, 4, 5, 5, 0, 1, 2, 7, 6, 1, 7, 7, 7, 7, 3, 3], [(0, 0), (0, 1), (0, 2), (0, 3), (0, 4), (0, 5), (0, 6), (0, 7), (0, 8), (0, 9), (0, 10), (0, 11), (0, 12), (0, 13), (0, 14), (0, 15)], [true, false, false, false, false, true, false, true, false, false, false, false, false, false, true, true], true, true, 0), (false, 8, 2))
def rX8_echoB : List ab_R := [(0, .aload_n 0, 1, 0, 0, 0, [], none),
  (1, .aload_n 0, 1, 0, 0, 0, [], none),
  (2, .getfield 87, 3, 8, 15, 0, [], none),
  (5, .iload_n 1, 1, 0, 0, 0, [], none),
  (6, .invokevirtual 262, 3, 0, 0, 0, [], some mX8_cutLayerB),
  (9, .istore_n 3, 1, 0, 0, 0, [], none),
  (10, .iload_n 3, 1, 0, 0, 0, [], none),
  (11, .ifCond .ne 13, 3, 0, 0, 0, [24], none),
  (14, .aload_n 0, 1, 0, 0, 0, [], none),
  (15, .aload_n 0, 1, 0, 0, 0, [], none),
  (16, .getfield 91, 3, 8, 16, 0, [], none),
  (19, .iload_n 2, 1, 0, 0, 0, [], none),
  (20, .invokevirtual 262, 3, 0, 0, 0, [], some mX8_cutLayerB),
  (23, .istore_n 3, 1, 0, 0, 0, [], none),
  (24, .iload_n 3, 1, 0, 0, 0, [], none),
  (25, .ifCond .eq 9, 3, 0, 0, 0, [34], none),
  (28, .aload_n 0, 1, 0, 0, 0, [], none),
  (29, .iload_n 3, 1, 0, 0, 0, [], none),
  (30, .invokevirtual 101, 3, 0, 0, 0, [], some mX8_refuse),
  (33, .ireturn, 1, 0, 0, 0, [], none),
  (34, .iconst 0, 1, 0, 0, 0, [], none),
  (35, .istore 4, 2, 0, 0, 0, [], none),
  (37, .iconst 0, 1, 0, 0, 0, [], none),
  (38, .istore 5, 2, 0, 0, 0, [], none),
  (40, .iload 5, 2, 0, 0, 0, [], none),
  (42, .aload_n 0, 1, 0, 0, 0, [], none),
  (43, .getfield 87, 3, 8, 15, 0, [], none),
  (46, .getfield 266, 3, 3, 0, 0, [], none),
  (49, .iadd, 1, 0, 0, 0, [], none),
  (50, .aload_n 0, 1, 0, 0, 0, [], none),
  (51, .getfield 91, 3, 8, 16, 0, [], none),
  (54, .getfield 266, 3, 3, 0, 0, [], none),
  (57, .if_icmp .gt 32, 3, 0, 0, 0, [89], none),
  (60, .aload_n 0, 1, 0, 0, 0, [], none),
  (61, .getfield 87, 3, 8, 15, 0, [], none),
  (64, .aload_n 0, 1, 0, 0, 0, [], none),
  (65, .getfield 23, 3, 8, 2, 0, [], none),
  (68, .aload_n 0, 1, 0, 0, 0, [], none),
  (69, .getfield 91, 3, 8, 16, 0, [], none),
  (72, .iload 5, 2, 0, 0, 0, [], none),
  (74, .invokevirtual 290, 3, 0, 0, 0, [], some mX3_stepsAsIn),
  (77, .ifCond .eq 6, 3, 0, 0, 0, [83], none),
  (80, .iinc 4 1, 3, 0, 0, 0, [], none),
  (83, .iinc 5 1, 3, 0, 0, 0, [], none),
  (86, .goto (-46), 3, 0, 0, 0, [40], none),
  (89, .aload_n 0, 1, 0, 0, 0, [], none),
  (90, .iload 4, 2, 0, 0, 0, [], none),
  (92, .invokevirtual 124, 3, 0, 0, 0, [], some mX8_grant),
  (95, .ireturn, 1, 0, 0, 0, [], none)]
set_option maxRecDepth 100000 in
theorem kX8_echoB : ab_def_ok mX8_echoB rX8_echoB := ⟨ab_mok_of 918 99 916 917 (by decide +kernel), [0, 0, 404, 0, 869, 0, 0, 0, 0, 0, 405, 0, 869, 0, 0, 0, 0, 0, 453, 0, 0, 0, 0, 0, 0, 0, 404, 373, 0, 0, 405, 373, 0, 0, 404, 0, 391, 0, 405, 0, 919, 0, 0, 0, 0, 0, 0, 610, 0], by decide +kernel⟩
set_option maxRecDepth 100000 in
set_option maxHeartbeats 100000000 in
theorem vX8_echoB_0 {x : ab_Cx} {d mc ms : Nat} {Post : Option ab_V → List ab_Ob → Prop} (hx : ab_At x mX8_echoB d mc ms Post) (a1 a2 : Int) (w0 w1 w2 w3 w4 w5 w6 w7 w8 w9 w10 w11 w12 w13 w14 w15 : ab_Ob) (kc ks : Nat)
    (h : (∃ mc1 ms2 : Nat, (kc + mc1 ≤ mc ∧ ks + ms2 ≤ ms) ∧ ∃ Q3 : Option ab_V → List ab_Ob → Prop, ab_Ct d mc1 ms2 mX8_cutLayerB [ab_O 0, ab_O 14, ab_I a1] [w0, w1, w2, w3, w4, w5, w6, w7, w8, w9, w10, w11, w12, w13, w14, w15] Q3 ∧ (∀ r4 : Int, ∀ v5 : ab_Ob, ∀ v6 : ab_Ob, ∀ v7 : ab_Ob, ∀ v8 : ab_Ob, ∀ v9 : ab_Ob, Q3 (some (ab_I r4)) [v5, w1, w2, w3, w4, v6, w6, v7, w8, w9, w10, w11, w12, w13, v8, v9] → ((¬ r4 = 0 → ((r4 = 0 → ab_J x 40 [some (ab_O 0), none, none, none, some (ab_I 0), some (ab_I 0)] [] [v5, w1, w2, w3, w4, v6, w6, v7, w8, w9, w10, w11, w12, w13, v8, v9] (kc + mc1) (ks + ms2)) ∧ (¬ r4 = 0 → (∃ Q10 : Option ab_V → List ab_Ob → Prop, ab_Ct d 0 0 mX8_refuse [ab_O 0, ab_I r4] [v5, w1, w2, w3, w4, v6, w6, v7, w8, w9, w10, w11, w12, w13, v8, v9] Q10 ∧ (∀ r11 : Int, ∀ v12 : ab_Ob, Q10 (some (ab_I r11)) [v12, w1, w2, w3, w4, v6, w6, v7, w8, w9, w10, w11, w12, w13, v8, v9] → Post (some (ab_I r11)) [v12, w1, w2, w3, w4, v6, w6, v7, w8, w9, w10, w11, w12, w13, v8, v9]))))) ∧ (r4 = 0 → (∃ mc13 ms14 : Nat, ((kc + mc1) + mc13 ≤ mc ∧ (ks + ms2) + ms14 ≤ ms) ∧ ∃ Q15 : Option ab_V → List ab_Ob → Prop, ab_Ct d mc13 ms14 mX8_cutLayerB [ab_O 0, ab_O 15, ab_I a2] [v5, w1, w2, w3, w4, v6, w6, v7, w8, w9, w10, w11, w12, w13, v8, v9] Q15 ∧ (∀ r16 : Int, ∀ v17 : ab_Ob, ∀ v18 : ab_Ob, ∀ v19 : ab_Ob, ∀ v20 : ab_Ob, ∀ v21 : ab_Ob, Q15 (some (ab_I r16)) [v17, w1, w2, w3, w4, v18, w6, v19, w8, w9, w10, w11, w12, w13, v20, v21] → ((r16 = 0 → ab_J x 40 [some (ab_O 0), none, none, none, some (ab_I 0), some (ab_I 0)] [] [v17, w1, w2, w3, w4, v18, w6, v19, w8, w9, w10, w11, w12, w13, v20, v21] ((kc + mc1) + mc13) ((ks + ms2) + ms14)) ∧ (¬ r16 = 0 → (∃ Q22 : Option ab_V → List ab_Ob → Prop, ab_Ct d 0 0 mX8_refuse [ab_O 0, ab_I r16] [v17, w1, w2, w3, w4, v18, w6, v19, w8, w9, w10, w11, w12, w13, v20, v21] Q22 ∧ (∀ r23 : Int, ∀ v24 : ab_Ob, Q22 (some (ab_I r23)) [v24, w1, w2, w3, w4, v18, w6, v19, w8, w9, w10, w11, w12, w13, v20, v21] → Post (some (ab_I r23)) [v24, w1, w2, w3, w4, v18, w6, v19, w8, w9, w10, w11, w12, w13, v20, v21]))))))))))) :
    ab_J x 0 [some (ab_O 0), some (ab_I a1), some (ab_I a2), none, none, none] [] [w0, w1, w2, w3, w4, w5, w6, w7, w8, w9, w10, w11, w12, w13, w14, w15] kc ks := ab_go hx kX8_echoB.2 25 [(40, [true, false, false, false, true, true])] 0 h
set_option maxRecDepth 100000 in
set_option maxHeartbeats 100000000 in
theorem vX8_echoB_40 {x : ab_Cx} {d mc ms : Nat} {Post : Option ab_V → List ab_Ob → Prop} (hx : ab_At x mX8_echoB d mc ms Post) (l4 l5 : Int) (w0 w1 w2 w3 w4 w5 w6 w7 w8 w9 w10 w11 w12 w13 w14 w15 : ab_Ob) (kc ks : Nat)
    (h : ((-2147483648 ≤ l5 + (w14.1 0) ∧ l5 + (w14.1 0) ≤ 2147483647) ∧ (((w15.1 0) < (l5 + (w14.1 0)) → (∃ Q1 : Option ab_V → List ab_Ob → Prop, ab_Ct d 0 0 mX8_grant [ab_O 0, ab_I l4] [w0, w1, w2, w3, w4, w5, w6, w7, w8, w9, w10, w11, w12, w13, w14, w15] Q1 ∧ (∀ r2 : Int, ∀ v3 : ab_Ob, Q1 (some (ab_I r2)) [v3, w1, w2, w3, w4, w5, w6, w7, w8, w9, w10, w11, w12, w13, w14, w15] → Post (some (ab_I r2)) [v3, w1, w2, w3, w4, w5, w6, w7, w8, w9, w10, w11, w12, w13, w14, w15]))) ∧ (¬ (w15.1 0) < (l5 + (w14.1 0)) → (∃ Q4 : Option ab_V → List ab_Ob → Prop, ab_Ct d 0 0 mX3_stepsAsIn [ab_O 0, ab_O 1, ab_O 2, ab_I l5] [w14, w3, w15] Q4 ∧ (∀ r5 : Int, Q4 (some (ab_I r5)) [w14, w3, w15] → ((r5 = 0 → ((-2147483648 ≤ l5 + 1 ∧ l5 + 1 ≤ 2147483647) ∧ ab_J x 40 [some (ab_O 0), none, none, none, some (ab_I l4), some (ab_I (l5 + 1))] [] [w0, w1, w2, w3, w4, w5, w6, w7, w8, w9, w10, w11, w12, w13, w14, w15] kc ks)) ∧ (¬ r5 = 0 → ((-2147483648 ≤ l4 + 1 ∧ l4 + 1 ≤ 2147483647) ∧ ((-2147483648 ≤ l5 + 1 ∧ l5 + 1 ≤ 2147483647) ∧ ab_J x 40 [some (ab_O 0), none, none, none, some (ab_I (l4 + 1)), some (ab_I (l5 + 1))] [] [w0, w1, w2, w3, w4, w5, w6, w7, w8, w9, w10, w11, w12, w13, w14, w15] kc ks)))))))))) :
    ab_J x 40 [some (ab_O 0), none, none, none, some (ab_I l4), some (ab_I l5)] [] [w0, w1, w2, w3, w4, w5, w6, w7, w8, w9, w10, w11, w12, w13, w14, w15] kc ks := ab_go hx kX8_echoB.2 26 [(40, [true, false, false, false, true, true])] 40 h
