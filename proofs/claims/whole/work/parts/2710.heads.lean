def mX8_alike : ab_M := ((yX8_alike, cX8_alike, 5, (some .int)), ([8, 4, 5, 5, 0, 1, 2, 7, 6, 1, 7, 7, 7, 7, 3, 3], [(0, 0), (0, 1), (0, 2), (0, 3), (0, 4), (0, 5), (0, 6), (0, 7), (0, 8), (0, 9), (0, 10), (0, 11), (0, 12), (0, 13), (0, 14), (0, 15)], [true, false, false, false, false, true, false, false, false, false, false, false, true, true, false, false], true, true, 0), (false, 8, 3))
def rX8_alike : List ab_R := [(0, .aload_n 0, 1, 0, 0, 0, [], none),
  (1, .iload_n 1, 1, 0, 0, 0, [], none),
  (2, .iload_n 3, 1, 0, 0, 0, [], none),
  (3, .invokevirtual 317, 3, 0, 0, 0, [], some mX8_hasNotesFrom),
  (6, .ifCond .eq 12, 3, 0, 0, 0, [18], none),
  (9, .aload_n 0, 1, 0, 0, 0, [], none),
  (10, .iload_n 2, 1, 0, 0, 0, [], none),
  (11, .iload_n 3, 1, 0, 0, 0, [], none),
  (12, .invokevirtual 317, 3, 0, 0, 0, [], some mX8_hasNotesFrom),
  (15, .ifCond .ne 9, 3, 0, 0, 0, [24], none),
  (18, .aload_n 0, 1, 0, 0, 0, [], none),
  (19, .iconst 1, 1, 0, 0, 0, [], none),
  (20, .invokevirtual 101, 3, 0, 0, 0, [], some mX8_refuse),
  (23, .ireturn, 1, 0, 0, 0, [], none),
  (24, .aload_n 0, 1, 0, 0, 0, [], none),
  (25, .invokevirtual 188, 3, 0, 0, 0, [], some mX8_freshSpans),
  (28, .astore 4, 2, 0, 0, 0, [], none),
  (30, .aload_n 0, 1, 0, 0, 0, [], none),
  (31, .getfield 78, 3, 8, 13, 0, [], none),
  (34, .aload 4, 2, 0, 0, 0, [], none),
  (36, .iload_n 1, 1, 0, 0, 0, [], none),
  (37, .iload_n 1, 1, 0, 0, 0, [], none),
  (38, .iload_n 3, 1, 0, 0, 0, [], none),
  (39, .iadd, 1, 0, 0, 0, [], none),
  (40, .iconst 1, 1, 0, 0, 0, [], none),
  (41, .isub, 1, 0, 0, 0, [], none),
  (42, .invokevirtual 327, 3, 0, 0, 0, [], some mX7_build),
  (45, .aload_n 0, 1, 0, 0, 0, [], none),
  (46, .getfield 81, 3, 8, 14, 0, [], none),
  (49, .aload 4, 2, 0, 0, 0, [], none),
  (51, .iload_n 2, 1, 0, 0, 0, [], none),
  (52, .iload_n 2, 1, 0, 0, 0, [], none),
  (53, .iload_n 3, 1, 0, 0, 0, [], none),
  (54, .iadd, 1, 0, 0, 0, [], none),
  (55, .iconst 1, 1, 0, 0, 0, [], none),
  (56, .isub, 1, 0, 0, 0, [], none),
  (57, .invokevirtual 327, 3, 0, 0, 0, [], some mX7_build),
  (60, .aload_n 0, 1, 0, 0, 0, [], none),
  (61, .aload_n 0, 1, 0, 0, 0, [], none),
  (62, .getfield 78, 3, 8, 13, 0, [], none),
  (65, .aload_n 0, 1, 0, 0, 0, [], none),
  (66, .getfield 81, 3, 8, 14, 0, [], none),
  (69, .iload_n 2, 1, 0, 0, 0, [], none),
  (70, .iload_n 1, 1, 0, 0, 0, [], none),
  (71, .isub, 1, 0, 0, 0, [], none),
  (72, .invokevirtual 331, 3, 0, 0, 0, [], some mX7_isLike),
  (75, .ifCond .eq 7, 3, 0, 0, 0, [82], none),
  (78, .iconst 1, 1, 0, 0, 0, [], none),
  (79, .goto 4, 3, 0, 0, 0, [83], none),
  (82, .iconst 0, 1, 0, 0, 0, [], none),
  (83, .invokevirtual 124, 3, 0, 0, 0, [], some mX8_grant),
  (86, .ireturn, 1, 0, 0, 0, [], none)]
set_option maxRecDepth 100000 in
theorem kX8_alike : ab_def_ok mX8_alike rX8_alike := ⟨ab_mok_of 1017 99 1015 1016 (by decide +kernel), [0, 0, 0, 996, 0, 0, 0, 0, 996, 0, 0, 0, 453, 0, 0, 650, 0, 0, 402, 0, 0, 0, 0, 0, 0, 0, 688, 0, 403, 0, 0, 0, 0, 0, 0, 0, 688, 0, 0, 402, 0, 403, 0, 0, 0, 1018, 0, 0, 0, 0, 610, 0], by decide +kernel⟩
set_option maxRecDepth 100000 in
set_option maxHeartbeats 100000000 in
theorem vX8_alike_0 {x : ab_Cx} {d mc ms : Nat} {Post : Option ab_V → List ab_Ob → Prop} (hx : ab_At x mX8_alike d mc ms Post) (a1 a2 a3 : Int) (w0 w1 w2 w3 w4 w5 w6 w7 w8 w9 w10 w11 w12 w13 w14 w15 : ab_Ob) (kc ks : Nat)
    (h : (∃ Q1 : Option ab_V → List ab_Ob → Prop, ab_Ct d 0 0 mX8_hasNotesFrom [ab_O 0, ab_I a1, ab_I a3] [w0, w1, w2, w3, w4, w5, w6, w7, w8, w9, w10, w11, w12, w13, w14, w15] Q1 ∧ (∀ r2 : Int, Q1 (some (ab_I r2)) [w0, w1, w2, w3, w4, w5, w6, w7, w8, w9, w10, w11, w12, w13, w14, w15] → ((r2 = 0 → (∃ Q3 : Option ab_V → List ab_Ob → Prop, ab_Ct d 0 0 mX8_refuse [ab_O 0, ab_I 1] [w0, w1, w2, w3, w4, w5, w6, w7, w8, w9, w10, w11, w12, w13, w14, w15] Q3 ∧ (∀ r4 : Int, ∀ v5 : ab_Ob, Q3 (some (ab_I r4)) [v5, w1, w2, w3, w4, w5, w6, w7, w8, w9, w10, w11, w12, w13, w14, w15] → Post (some (ab_I r4)) [v5, w1, w2, w3, w4, w5, w6, w7, w8, w9, w10, w11, w12, w13, w14, w15]))) ∧ (¬ r2 = 0 → (∃ Q6 : Option ab_V → List ab_Ob → Prop, ab_Ct d 0 0 mX8_hasNotesFrom [ab_O 0, ab_I a2, ab_I a3] [w0, w1, w2, w3, w4, w5, w6, w7, w8, w9, w10, w11, w12, w13, w14, w15] Q6 ∧ (∀ r7 : Int, Q6 (some (ab_I r7)) [w0, w1, w2, w3, w4, w5, w6, w7, w8, w9, w10, w11, w12, w13, w14, w15] → ((¬ r7 = 0 → (∃ mc8 ms9 : Nat, (kc + mc8 ≤ mc ∧ ks + ms9 ≤ ms) ∧ ∃ Q10 : Option ab_V → List ab_Ob → Prop, ab_Ct d mc8 ms9 mX8_freshSpans [ab_O 0] [w0, w1, w2, w3, w4, w5, w6, w7, w8, w9, w10, w11, w12, w13, w14, w15] Q10 ∧ (∀ v11 : ab_Ob, ∀ v12 : ab_Ob, Q10 (some (ab_O 5)) [v11, w1, w2, w3, w4, v12, w6, w7, w8, w9, w10, w11, w12, w13, w14, w15] → ((-2147483648 ≤ a1 + a3 ∧ a1 + a3 ≤ 2147483647) ∧ ((-2147483648 ≤ (a1 + a3) - 1 ∧ (a1 + a3) - 1 ≤ 2147483647) ∧ (∃ Q13 : Option ab_V → List ab_Ob → Prop, ab_Ct d 0 0 mX7_build [ab_O 0, ab_O 1, ab_I a1, ab_I ((a1 + a3) - 1)] [w12, v12] Q13 ∧ (∀ v14 : ab_Ob, Q13 none [v14, v12] → ((-2147483648 ≤ a2 + a3 ∧ a2 + a3 ≤ 2147483647) ∧ ((-2147483648 ≤ (a2 + a3) - 1 ∧ (a2 + a3) - 1 ≤ 2147483647) ∧ (∃ Q15 : Option ab_V → List ab_Ob → Prop, ab_Ct d 0 0 mX7_build [ab_O 0, ab_O 1, ab_I a2, ab_I ((a2 + a3) - 1)] [w13, v12] Q15 ∧ (∀ v16 : ab_Ob, Q15 none [v16, v12] → ((-2147483648 ≤ a2 - a1 ∧ a2 - a1 ≤ 2147483647) ∧ (∃ Q17 : Option ab_V → List ab_Ob → Prop, ab_Ct d 0 0 mX7_isLike [ab_O 0, ab_O 1, ab_I (a2 - a1)] [v14, v16] Q17 ∧ (∀ r18 : Int, Q17 (some (ab_I r18)) [v14, v16] → ((r18 = 0 → (∃ Q19 : Option ab_V → List ab_Ob → Prop, ab_Ct d 0 0 mX8_grant [ab_O 0, ab_I 0] [v11, w1, w2, w3, w4, v12, w6, w7, w8, w9, w10, w11, v14, v16, w14, w15] Q19 ∧ (∀ r20 : Int, ∀ v21 : ab_Ob, Q19 (some (ab_I r20)) [v21, w1, w2, w3, w4, v12, w6, w7, w8, w9, w10, w11, v14, v16, w14, w15] → Post (some (ab_I r20)) [v21, w1, w2, w3, w4, v12, w6, w7, w8, w9, w10, w11, v14, v16, w14, w15]))) ∧ (¬ r18 = 0 → (∃ Q22 : Option ab_V → List ab_Ob → Prop, ab_Ct d 0 0 mX8_grant [ab_O 0, ab_I 1] [v11, w1, w2, w3, w4, v12, w6, w7, w8, w9, w10, w11, v14, v16, w14, w15] Q22 ∧ (∀ r23 : Int, ∀ v24 : ab_Ob, Q22 (some (ab_I r23)) [v24, w1, w2, w3, w4, v12, w6, w7, w8, w9, w10, w11, v14, v16, w14, w15] → Post (some (ab_I r23)) [v24, w1, w2, w3, w4, v12, w6, w7, w8, w9, w10, w11, v14, v16, w14, w15])))))))))))))))))) ∧ (r7 = 0 → (∃ Q25 : Option ab_V → List ab_Ob → Prop, ab_Ct d 0 0 mX8_refuse [ab_O 0, ab_I 1] [w0, w1, w2, w3, w4, w5, w6, w7, w8, w9, w10, w11, w12, w13, w14, w15] Q25 ∧ (∀ r26 : Int, ∀ v27 : ab_Ob, Q25 (some (ab_I r26)) [v27, w1, w2, w3, w4, w5, w6, w7, w8, w9, w10, w11, w12, w13, w14, w15] → Post (some (ab_I r26)) [v27, w1, w2, w3, w4, w5, w6, w7, w8, w9, w10, w11, w12, w13, w14, w15]))))))))))) :
    ab_J x 0 [some (ab_O 0), some (ab_I a1), some (ab_I a2), some (ab_I a3), none] [] [w0, w1, w2, w3, w4, w5, w6, w7, w8, w9, w10, w11, w12, w13, w14, w15] kc ks := ab_go hx kX8_alike.2 51 [] 0 h
def mX8_wholeBreaks : ab_M := ((yX8_wholeBreaks, cX8_wholeBreaks, 1, (some .int)), ([8, 4, 5, 5, 0, 1, 2, 7, 6, 1, 7, 7, 7, 7, 3, 3], [(0, 0), (0, 1), (0, 2), (0, 3), (0, 4), (0, 5), (0, 6), (0, 7), (0, 8), (0, 9), (0, 10), (0, 11), (0, 12), (0, 13), (0, 14), (0, 15)], [true, false, false, false, false, true, false, false, false, false, false, false, false, false, false, false], true, true, 0), (false, 8, 0))
def rX8_wholeBreaks : List ab_R := [(0, .aload_n 0, 1, 0, 0, 0, [], none),
  (1, .invokevirtual 188, 3, 0, 0, 0, [], some mX8_freshSpans),
  (4, .iconst 0, 1, 0, 0, 0, [], none),
  (5, .aload_n 0, 1, 0, 0, 0, [], none),
  (6, .getfield 23, 3, 8, 2, 0, [], none),
  (9, .getfield 121, 3, 5, 3, 0, [], none),
  (12, .iconst 1, 1, 0, 0, 0, [], none),
  (13, .isub, 1, 0, 0, 0, [], none),
  (14, .invokevirtual 192, 3, 0, 0, 0, [], some mX1_least),
  (17, .ireturn, 1, 0, 0, 0, [], none)]
set_option maxRecDepth 100000 in
theorem kX8_wholeBreaks : ab_def_ok mX8_wholeBreaks rX8_wholeBreaks := ⟨ab_mok_of 1029 99 1028 38 (by decide +kernel), [0, 650, 0, 0, 391, 148, 0, 0, 745, 0], by decide +kernel⟩
set_option maxRecDepth 100000 in
set_option maxHeartbeats 100000000 in
theorem vX8_wholeBreaks_0 {x : ab_Cx} {d mc ms : Nat} {Post : Option ab_V → List ab_Ob → Prop} (hx : ab_At x mX8_wholeBreaks d mc ms Post) (w0 w1 w2 w3 w4 w5 w6 w7 w8 w9 w10 w11 w12 w13 w14 w15 : ab_Ob) (kc ks : Nat)
    (h : (∃ mc1 ms2 : Nat, (kc + mc1 ≤ mc ∧ ks + ms2 ≤ ms) ∧ ∃ Q3 : Option ab_V → List ab_Ob → Prop, ab_Ct d mc1 ms2 mX8_freshSpans [ab_O 0] [w0, w1, w2, w3, w4, w5, w6, w7, w8, w9, w10, w11, w12, w13, w14, w15] Q3 ∧ (∀ v4 : ab_Ob, ∀ v5 : ab_Ob, Q3 (some (ab_O 5)) [v4, w1, w2, w3, w4, v5, w6, w7, w8, w9, w10, w11, w12, w13, w14, w15] → ((-2147483648 ≤ (w3.1 3) - 1 ∧ (w3.1 3) - 1 ≤ 2147483647) ∧ (∃ Q6 : Option ab_V → List ab_Ob → Prop, ab_Ct d 0 0 mX1_least [ab_O 0, ab_I 0, ab_I ((w3.1 3) - 1)] [v5] Q6 ∧ (∀ r7 : Int, Q6 (some (ab_I r7)) [v5] → Post (some (ab_I r7)) [v4, w1, w2, w3, w4, v5, w6, w7, w8, w9, w10, w11, w12, w13, w14, w15])))))) :
    ab_J x 0 [some (ab_O 0)] [] [w0, w1, w2, w3, w4, w5, w6, w7, w8, w9, w10, w11, w12, w13, w14, w15] kc ks := ab_go hx kX8_wholeBreaks.2 14 [] 0 h
def mX8_keep : ab_M := ((yX8_keep, cX8_keep, 1, (some .int)), ([8, 4, 5, 5, 0, 1, 2, 7, 6, 1, 7, 7, 7, 7, 3, 3], [(0, 0), (0, 1), (0, 2), (0, 3), (0, 4), (0, 5), (0, 6), (0, 7), (0, 8), (0, 9), (0, 10), (0, 11), (0, 12), (0, 13), (0, 14), (0, 15)], [true, false, false, false, false, true, false, false, false, false, false, true, false, false, false, false], true, true, 0), (false, 8, 0))
def rX8_keep : List ab_R := [(0, .aload_n 0, 1, 0, 0, 0, [], none),
  (1, .invokevirtual 130, 3, 0, 0, 0, [], some mX8_hasPiece),
  (4, .ifCond .ne 9, 3, 0, 0, 0, [13], none),
  (7, .aload_n 0, 1, 0, 0, 0, [], none),
  (8, .iconst 1, 1, 0, 0, 0, [], none),
  (9, .invokevirtual 101, 3, 0, 0, 0, [], some mX8_refuse),
  (12, .ireturn, 1, 0, 0, 0, [], none),
  (13, .aload_n 0, 1, 0, 0, 0, [], none),
  (14, .getfield 72, 3, 8, 11, 0, [], none),
  (17, .aload_n 0, 1, 0, 0, 0, [], none),
  (18, .invokevirtual 188, 3, 0, 0, 0, [], some mX8_freshSpans),
  (21, .iconst 0, 1, 0, 0, 0, [], none),
  (22, .aload_n 0, 1, 0, 0, 0, [], none),
  (23, .getfield 23, 3, 8, 2, 0, [], none),
  (26, .getfield 121, 3, 5, 3, 0, [], none),
  (29, .iconst 1, 1, 0, 0, 0, [], none),
  (30, .isub, 1, 0, 0, 0, [], none),
  (31, .invokevirtual 327, 3, 0, 0, 0, [], some mX7_build),
  (34, .aload_n 0, 1, 0, 0, 0, [], none),
  (35, .iconst 1, 1, 0, 0, 0, [], none),
  (36, .putfield 75, 3, 8, 12, 0, [], none),
  (39, .aload_n 0, 1, 0, 0, 0, [], none),
  (40, .aload_n 0, 1, 0, 0, 0, [], none),
  (41, .invokevirtual 335, 3, 0, 0, 0, [], some mX8_wholeBreaks),
  (44, .invokevirtual 124, 3, 0, 0, 0, [], some mX8_grant),
  (47, .ireturn, 1, 0, 0, 0, [], none)]
set_option maxRecDepth 100000 in
theorem kX8_keep : ab_def_ok mX8_keep rX8_keep := ⟨ab_mok_of 1025 99 1023 1024 (by decide +kernel), [0, 626, 0, 0, 0, 453, 0, 0, 400, 0, 650, 0, 0, 391, 148, 0, 0, 688, 0, 0, 401, 0, 0, 1026, 610, 0], by decide +kernel⟩
set_option maxRecDepth 100000 in
set_option maxHeartbeats 100000000 in
theorem vX8_keep_0 {x : ab_Cx} {d mc ms : Nat} {Post : Option ab_V → List ab_Ob → Prop} (hx : ab_At x mX8_keep d mc ms Post) (w0 w1 w2 w3 w4 w5 w6 w7 w8 w9 w10 w11 w12 w13 w14 w15 : ab_Ob) (kc ks : Nat)
    (h : (∃ Q1 : Option ab_V → List ab_Ob → Prop, ab_Ct d 0 0 mX8_hasPiece [ab_O 0] [w0, w1, w2, w3, w4, w5, w6, w7, w8, w9, w10, w11, w12, w13, w14, w15] Q1 ∧ (∀ r2 : Int, Q1 (some (ab_I r2)) [w0, w1, w2, w3, w4, w5, w6, w7, w8, w9, w10, w11, w12, w13, w14, w15] → ((¬ r2 = 0 → (∃ mc3 ms4 : Nat, (kc + mc3 ≤ mc ∧ ks + ms4 ≤ ms) ∧ ∃ Q5 : Option ab_V → List ab_Ob → Prop, ab_Ct d mc3 ms4 mX8_freshSpans [ab_O 0] [w0, w1, w2, w3, w4, w5, w6, w7, w8, w9, w10, w11, w12, w13, w14, w15] Q5 ∧ (∀ v6 : ab_Ob, ∀ v7 : ab_Ob, Q5 (some (ab_O 5)) [v6, w1, w2, w3, w4, v7, w6, w7, w8, w9, w10, w11, w12, w13, w14, w15] → ((-2147483648 ≤ (w3.1 3) - 1 ∧ (w3.1 3) - 1 ≤ 2147483647) ∧ (∃ Q8 : Option ab_V → List ab_Ob → Prop, ab_Ct d 0 0 mX7_build [ab_O 0, ab_O 1, ab_I 0, ab_I ((w3.1 3) - 1)] [w11, v7] Q8 ∧ (∀ v9 : ab_Ob, Q8 none [v9, v7] → (((1 : Int) = 0 ∨ (1 : Int) = 1) ∧ (∃ mc10 ms11 : Nat, ((kc + mc3) + mc10 ≤ mc ∧ (ks + ms4) + ms11 ≤ ms) ∧ ∃ Q12 : Option ab_V → List ab_Ob → Prop, ab_Ct d mc10 ms11 mX8_wholeBreaks [ab_O 0] [(ab_pf v6 12 1), w1, w2, w3, w4, v7, w6, w7, w8, w9, w10, v9, w12, w13, w14, w15] Q12 ∧ (∀ r13 : Int, ∀ v14 : ab_Ob, ∀ v15 : ab_Ob, Q12 (some (ab_I r13)) [v14, w1, w2, w3, w4, v15, w6, w7, w8, w9, w10, v9, w12, w13, w14, w15] → (∃ Q16 : Option ab_V → List ab_Ob → Prop, ab_Ct d 0 0 mX8_grant [ab_O 0, ab_I r13] [v14, w1, w2, w3, w4, v15, w6, w7, w8, w9, w10, v9, w12, w13, w14, w15] Q16 ∧ (∀ r17 : Int, ∀ v18 : ab_Ob, Q16 (some (ab_I r17)) [v18, w1, w2, w3, w4, v15, w6, w7, w8, w9, w10, v9, w12, w13, w14, w15] → Post (some (ab_I r17)) [v18, w1, w2, w3, w4, v15, w6, w7, w8, w9, w10, v9, w12, w13, w14, w15]))))))))))) ∧ (r2 = 0 → (∃ Q19 : Option ab_V → List ab_Ob → Prop, ab_Ct d 0 0 mX8_refuse [ab_O 0, ab_I 1] [w0, w1, w2, w3, w4, w5, w6, w7, w8, w9, w10, w11, w12, w13, w14, w15] Q19 ∧ (∀ r20 : Int, ∀ v21 : ab_Ob, Q19 (some (ab_I r20)) [v21, w1, w2, w3, w4, w5, w6, w7, w8, w9, w10, w11, w12, w13, w14, w15] → Post (some (ab_I r20)) [v21, w1, w2, w3, w4, w5, w6, w7, w8, w9, w10, w11, w12, w13, w14, w15]))))))) :
    ab_J x 0 [some (ab_O 0)] [] [w0, w1, w2, w3, w4, w5, w6, w7, w8, w9, w10, w11, w12, w13, w14, w15] kc ks := ab_go hx kX8_keep.2 26 [] 0 h
def mX8_unlike : ab_M := ((yX8_unlike, cX8_unlike, 2, (some .int)), ([8, 4, 5, 5, 0, 1, 2, 7, 6, 1, 7, 7, 7, 7, 3, 3], [(0, 0), (0, 1), (0, 2), (0, 3), (0, 4), (0, 5), (0, 6), (0, 7), (0, 8), (0, 9), (0, 10), (0, 11), (0, 12), (0, 13), (0, 14), (0, 15)], [true, false, false, false, false, true, false, true, false, false, false, false, false, false, false, false], true, true, 0), (false, 8, 1))
def rX8_unlike : List ab_R := [(0, .aload_n 0, 1, 0, 0, 0, [], none),
  (1, .getfield 75, 3, 8, 12, 0, [], none),
  (4, .ifCond .ne 9, 3, 0, 0, 0, [13], none),
  (7, .aload_n 0, 1, 0, 0, 0, [], none),
  (8, .iconst 1, 1, 0, 0, 0, [], none),
  (9, .invokevirtual 101, 3, 0, 0, 0, [], some mX8_refuse),
  (12, .ireturn, 1, 0, 0, 0, [], none),
  (13, .iload_n 1, 1, 0, 0, 0, [], none),
  (14, .tableswitch 81 0 2 #[26, 42, 58], 26, 0, 0, 0, [95, 40, 56, 72], none),
  (40, .aload_n 0, 1, 0, 0, 0, [], none),
  (41, .aload_n 0, 1, 0, 0, 0, [], none),
  (42, .invokevirtual 171, 3, 0, 0, 0, [], some mX8_freshTree),
  (45, .aload_n 0, 1, 0, 0, 0, [], none),
  (46, .getfield 72, 3, 8, 11, 0, [], none),
  (49, .invokevirtual 338, 3, 0, 0, 0, [], some mX7_spansNotIn),
  (52, .invokevirtual 124, 3, 0, 0, 0, [], some mX8_grant),
  (55, .ireturn, 1, 0, 0, 0, [], none),
  (56, .aload_n 0, 1, 0, 0, 0, [], none),
  (57, .aload_n 0, 1, 0, 0, 0, [], none),
  (58, .invokevirtual 171, 3, 0, 0, 0, [], some mX8_freshTree),
  (61, .aload_n 0, 1, 0, 0, 0, [], none),
  (62, .getfield 72, 3, 8, 11, 0, [], none),
  (65, .invokevirtual 342, 3, 0, 0, 0, [], some mX7_headsUnlike),
  (68, .invokevirtual 124, 3, 0, 0, 0, [], some mX8_grant),
  (71, .ireturn, 1, 0, 0, 0, [], none),
  (72, .aload_n 0, 1, 0, 0, 0, [], none),
  (73, .aload_n 0, 1, 0, 0, 0, [], none),
  (74, .invokevirtual 171, 3, 0, 0, 0, [], some mX8_freshTree),
  (77, .aload_n 0, 1, 0, 0, 0, [], none),
  (78, .getfield 72, 3, 8, 11, 0, [], none),
  (81, .aload_n 0, 1, 0, 0, 0, [], none),
  (82, .getfield 23, 3, 8, 2, 0, [], none),
  (85, .getfield 121, 3, 5, 3, 0, [], none),
  (88, .invokevirtual 345, 3, 0, 0, 0, [], some mX7_ranksUnlike),
  (91, .invokevirtual 124, 3, 0, 0, 0, [], some mX8_grant),
  (94, .ireturn, 1, 0, 0, 0, [], none),
  (95, .aload_n 0, 1, 0, 0, 0, [], none),
  (96, .iconst 1, 1, 0, 0, 0, [], none),
  (97, .invokevirtual 101, 3, 0, 0, 0, [], some mX8_refuse),
  (100, .ireturn, 1, 0, 0, 0, [], none)]
set_option maxRecDepth 100000 in
theorem kX8_unlike : ab_def_ok mX8_unlike rX8_unlike := ⟨ab_mok_of 1033 99 1031 1032 (by decide +kernel), [0, 401, 0, 0, 0, 453, 0, 0, 0, 0, 0, 646, 0, 400, 1034, 610, 0, 0, 0, 646, 0, 400, 1042, 610, 0, 0, 0, 646, 0, 400, 0, 391, 148, 1046, 610, 0, 0, 0, 453, 0], by decide +kernel⟩
set_option maxRecDepth 100000 in
set_option maxHeartbeats 100000000 in
theorem vX8_unlike_0 {x : ab_Cx} {d mc ms : Nat} {Post : Option ab_V → List ab_Ob → Prop} (hx : ab_At x mX8_unlike d mc ms Post) (a1 : Int) (w0 w1 w2 w3 w4 w5 w6 w7 w8 w9 w10 w11 w12 w13 w14 w15 : ab_Ob) (kc ks : Nat)
    (h : ((¬ (w0.1 12) = 0 → ((a1 < 0 ∨ 2 < a1 → (∃ Q34 : Option ab_V → List ab_Ob → Prop, ab_Ct d 0 0 mX8_refuse [ab_O 0, ab_I 1] [w0, w1, w2, w3, w4, w5, w6, w7, w8, w9, w10, w11, w12, w13, w14, w15] Q34 ∧ (∀ r35 : Int, ∀ v36 : ab_Ob, Q34 (some (ab_I r35)) [v36, w1, w2, w3, w4, w5, w6, w7, w8, w9, w10, w11, w12, w13, w14, w15] → Post (some (ab_I r35)) [v36, w1, w2, w3, w4, w5, w6, w7, w8, w9, w10, w11, w12, w13, w14, w15]))) ∧ ((a1 = 0 → (∃ mc23 ms24 : Nat, (kc + mc23 ≤ mc ∧ ks + ms24 ≤ ms) ∧ ∃ Q25 : Option ab_V → List ab_Ob → Prop, ab_Ct d mc23 ms24 mX8_freshTree [ab_O 0] [w0, w1, w2, w3, w4, w5, w6, w7, w8, w9, w10, w11, w12, w13, w14, w15] Q25 ∧ (∀ v26 : ab_Ob, ∀ v27 : ab_Ob, ∀ v28 : ab_Ob, Q25 (some (ab_O 7)) [v26, w1, w2, w3, w4, v27, w6, v28, w8, w9, w10, w11, w12, w13, w14, w15] → (∃ Q29 : Option ab_V → List ab_Ob → Prop, ab_Ct d 0 0 mX7_spansNotIn [ab_O 0, ab_O 1] [v28, w11] Q29 ∧ (∀ r30 : Int, Q29 (some (ab_I r30)) [v28, w11] → (∃ Q31 : Option ab_V → List ab_Ob → Prop, ab_Ct d 0 0 mX8_grant [ab_O 0, ab_I r30] [v26, w1, w2, w3, w4, v27, w6, v28, w8, w9, w10, w11, w12, w13, w14, w15] Q31 ∧ (∀ r32 : Int, ∀ v33 : ab_Ob, Q31 (some (ab_I r32)) [v33, w1, w2, w3, w4, v27, w6, v28, w8, w9, w10, w11, w12, w13, w14, w15] → Post (some (ab_I r32)) [v33, w1, w2, w3, w4, v27, w6, v28, w8, w9, w10, w11, w12, w13, w14, w15]))))))) ∧ ((a1 = 1 → (∃ mc12 ms13 : Nat, (kc + mc12 ≤ mc ∧ ks + ms13 ≤ ms) ∧ ∃ Q14 : Option ab_V → List ab_Ob → Prop, ab_Ct d mc12 ms13 mX8_freshTree [ab_O 0] [w0, w1, w2, w3, w4, w5, w6, w7, w8, w9, w10, w11, w12, w13, w14, w15] Q14 ∧ (∀ v15 : ab_Ob, ∀ v16 : ab_Ob, ∀ v17 : ab_Ob, Q14 (some (ab_O 7)) [v15, w1, w2, w3, w4, v16, w6, v17, w8, w9, w10, w11, w12, w13, w14, w15] → (∃ Q18 : Option ab_V → List ab_Ob → Prop, ab_Ct d 0 0 mX7_headsUnlike [ab_O 0, ab_O 1] [v17, w11] Q18 ∧ (∀ r19 : Int, Q18 (some (ab_I r19)) [v17, w11] → (∃ Q20 : Option ab_V → List ab_Ob → Prop, ab_Ct d 0 0 mX8_grant [ab_O 0, ab_I r19] [v15, w1, w2, w3, w4, v16, w6, v17, w8, w9, w10, w11, w12, w13, w14, w15] Q20 ∧ (∀ r21 : Int, ∀ v22 : ab_Ob, Q20 (some (ab_I r21)) [v22, w1, w2, w3, w4, v16, w6, v17, w8, w9, w10, w11, w12, w13, w14, w15] → Post (some (ab_I r21)) [v22, w1, w2, w3, w4, v16, w6, v17, w8, w9, w10, w11, w12, w13, w14, w15]))))))) ∧ ((a1 = 2 → (∃ mc1 ms2 : Nat, (kc + mc1 ≤ mc ∧ ks + ms2 ≤ ms) ∧ ∃ Q3 : Option ab_V → List ab_Ob → Prop, ab_Ct d mc1 ms2 mX8_freshTree [ab_O 0] [w0, w1, w2, w3, w4, w5, w6, w7, w8, w9, w10, w11, w12, w13, w14, w15] Q3 ∧ (∀ v4 : ab_Ob, ∀ v5 : ab_Ob, ∀ v6 : ab_Ob, Q3 (some (ab_O 7)) [v4, w1, w2, w3, w4, v5, w6, v6, w8, w9, w10, w11, w12, w13, w14, w15] → (∃ Q7 : Option ab_V → List ab_Ob → Prop, ab_Ct d 0 0 mX7_ranksUnlike [ab_O 0, ab_O 1, ab_I (w3.1 3)] [v6, w11] Q7 ∧ (∀ r8 : Int, Q7 (some (ab_I r8)) [v6, w11] → (∃ Q9 : Option ab_V → List ab_Ob → Prop, ab_Ct d 0 0 mX8_grant [ab_O 0, ab_I r8] [v4, w1, w2, w3, w4, v5, w6, v6, w8, w9, w10, w11, w12, w13, w14, w15] Q9 ∧ (∀ r10 : Int, ∀ v11 : ab_Ob, Q9 (some (ab_I r10)) [v11, w1, w2, w3, w4, v5, w6, v6, w8, w9, w10, w11, w12, w13, w14, w15] → Post (some (ab_I r10)) [v11, w1, w2, w3, w4, v5, w6, v6, w8, w9, w10, w11, w12, w13, w14, w15]))))))) ∧ True))))) ∧ ((w0.1 12) = 0 → (∃ Q37 : Option ab_V → List ab_Ob → Prop, ab_Ct d 0 0 mX8_refuse [ab_O 0, ab_I 1] [w0, w1, w2, w3, w4, w5, w6, w7, w8, w9, w10, w11, w12, w13, w14, w15] Q37 ∧ (∀ r38 : Int, ∀ v39 : ab_Ob, Q37 (some (ab_I r38)) [v39, w1, w2, w3, w4, w5, w6, w7, w8, w9, w10, w11, w12, w13, w14, w15] → Post (some (ab_I r38)) [v39, w1, w2, w3, w4, w5, w6, w7, w8, w9, w10, w11, w12, w13, w14, w15]))))) :
    ab_J x 0 [some (ab_O 0), some (ab_I a1)] [] [w0, w1, w2, w3, w4, w5, w6, w7, w8, w9, w10, w11, w12, w13, w14, w15] kc ks := ab_go hx kX8_unlike.2 20 [] 0 h
