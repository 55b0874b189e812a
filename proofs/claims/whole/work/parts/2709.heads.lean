def mX8_swayed : ab_M := ((yX8_swayed, cX8_swayed, 3, (some .int)), ([8, 4, 5, 5, 0, 1, 2, 7, 6, 1, 7, 7, 7, 7, 3, 3], [(0, 0), (0, 1), (0, 2), (0, 3), (0, 4), (0, 5), (0, 6), (0, 7), (0, 8), (0, 9), (0, 10), (0, 11), (0, 12), (0, 13), (0, 14), (0, 15)], [true, false, false, true, false, false, false, false, true, true, true, false, false, false, false, false], true, true, 0), (false, 8, 2))
def rX8_swayed : List ab_R := [(0, .aload_n 0, 1, 0, 0, 0, [], none),
  (1, .iload_n 1, 1, 0, 0, 0, [], none),
  (2, .invokevirtual 178, 3, 0, 0, 0, [], some mX8_hasRule),
  (5, .ifCond .ne 9, 3, 0, 0, 0, [14], none),
  (8, .aload_n 0, 1, 0, 0, 0, [], none),
  (9, .iconst 1, 1, 0, 0, 0, [], none),
  (10, .invokevirtual 101, 3, 0, 0, 0, [], some mX8_refuse),
  (13, .ireturn, 1, 0, 0, 0, [], none),
  (14, .iload_n 2, 1, 0, 0, 0, [], none),
  (15, .ifCond .lt 9, 3, 0, 0, 0, [24], none),
  (18, .iload_n 2, 1, 0, 0, 0, [], none),
  (19, .bipush 99, 2, 0, 0, 0, [], none),
  (21, .if_icmp .le 9, 3, 0, 0, 0, [30], none),
  (24, .aload_n 0, 1, 0, 0, 0, [], none),
  (25, .iconst 2, 1, 0, 0, 0, [], none),
  (26, .invokevirtual 101, 3, 0, 0, 0, [], some mX8_refuse),
  (29, .ireturn, 1, 0, 0, 0, [], none),
  (30, .aload_n 0, 1, 0, 0, 0, [], none),
  (31, .aload_n 0, 1, 0, 0, 0, [], none),
  (32, .getfield 68, 3, 8, 10, 0, [], none),
  (35, .aload_n 0, 1, 0, 0, 0, [], none),
  (36, .getfield 23, 3, 8, 2, 0, [], none),
  (39, .iload_n 1, 1, 0, 0, 0, [], none),
  (40, .iload_n 2, 1, 0, 0, 0, [], none),
  (41, .invokevirtual 313, 3, 0, 0, 0, [], some mX6_breaksWith),
  (44, .invokevirtual 124, 3, 0, 0, 0, [], some mX8_grant),
  (47, .ireturn, 1, 0, 0, 0, [], none)]
set_option maxRecDepth 100000 in
theorem kX8_swayed : ab_def_ok mX8_swayed rX8_swayed := ⟨ab_mok_of 987 99 985 986 (by decide +kernel), [0, 0, 733, 0, 0, 0, 453, 0, 0, 0, 0, 0, 0, 0, 0, 453, 0, 0, 0, 399, 0, 391, 0, 0, 988, 610, 0], by decide +kernel⟩
set_option maxRecDepth 100000 in
set_option maxHeartbeats 100000000 in
theorem vX8_swayed_0 {x : ab_Cx} {d mc ms : Nat} {Post : Option ab_V → List ab_Ob → Prop} (hx : ab_At x mX8_swayed d mc ms Post) (a1 a2 : Int) (w0 w1 w2 w3 w4 w5 w6 w7 w8 w9 w10 w11 w12 w13 w14 w15 : ab_Ob) (kc ks : Nat)
    (h : (∃ Q1 : Option ab_V → List ab_Ob → Prop, ab_Ct d 0 0 mX8_hasRule [ab_O 0, ab_I a1] [w0, w1, w2, w3, w4, w5, w6, w7, w8, w9, w10, w11, w12, w13, w14, w15] Q1 ∧ (∀ r2 : Int, Q1 (some (ab_I r2)) [w0, w1, w2, w3, w4, w5, w6, w7, w8, w9, w10, w11, w12, w13, w14, w15] → ((¬ r2 = 0 → ((a2 < 0 → (∃ Q3 : Option ab_V → List ab_Ob → Prop, ab_Ct d 0 0 mX8_refuse [ab_O 0, ab_I 2] [w0, w1, w2, w3, w4, w5, w6, w7, w8, w9, w10, w11, w12, w13, w14, w15] Q3 ∧ (∀ r4 : Int, ∀ v5 : ab_Ob, Q3 (some (ab_I r4)) [v5, w1, w2, w3, w4, w5, w6, w7, w8, w9, w10, w11, w12, w13, w14, w15] → Post (some (ab_I r4)) [v5, w1, w2, w3, w4, w5, w6, w7, w8, w9, w10, w11, w12, w13, w14, w15]))) ∧ (¬ a2 < 0 → ((a2 ≤ 99 → (∃ mc6 ms7 : Nat, (kc + mc6 ≤ mc ∧ ks + ms7 ≤ ms) ∧ ∃ Q8 : Option ab_V → List ab_Ob → Prop, ab_Ct d mc6 ms7 mX6_breaksWith [ab_O 0, ab_O 3, ab_I a1, ab_I a2] [w8, w9, w10, w3] Q8 ∧ (∀ r9 : Int, ∀ v10 : ab_Ob, ∀ v11 : ab_Ob, ∀ v12 : ab_Ob, ∀ v13 : ab_Ob, Q8 (some (ab_I r9)) [v10, v11, v12, v13] → (∃ Q14 : Option ab_V → List ab_Ob → Prop, ab_Ct d 0 0 mX8_grant [ab_O 0, ab_I r9] [w0, w1, w2, v13, w4, w5, w6, w7, v10, v11, v12, w11, w12, w13, w14, w15] Q14 ∧ (∀ r15 : Int, ∀ v16 : ab_Ob, Q14 (some (ab_I r15)) [v16, w1, w2, v13, w4, w5, w6, w7, v10, v11, v12, w11, w12, w13, w14, w15] → Post (some (ab_I r15)) [v16, w1, w2, v13, w4, w5, w6, w7, v10, v11, v12, w11, w12, w13, w14, w15]))))) ∧ (¬ a2 ≤ 99 → (∃ Q17 : Option ab_V → List ab_Ob → Prop, ab_Ct d 0 0 mX8_refuse [ab_O 0, ab_I 2] [w0, w1, w2, w3, w4, w5, w6, w7, w8, w9, w10, w11, w12, w13, w14, w15] Q17 ∧ (∀ r18 : Int, ∀ v19 : ab_Ob, Q17 (some (ab_I r18)) [v19, w1, w2, w3, w4, w5, w6, w7, w8, w9, w10, w11, w12, w13, w14, w15] → Post (some (ab_I r18)) [v19, w1, w2, w3, w4, w5, w6, w7, w8, w9, w10, w11, w12, w13, w14, w15]))))))) ∧ (r2 = 0 → (∃ Q20 : Option ab_V → List ab_Ob → Prop, ab_Ct d 0 0 mX8_refuse [ab_O 0, ab_I 1] [w0, w1, w2, w3, w4, w5, w6, w7, w8, w9, w10, w11, w12, w13, w14, w15] Q20 ∧ (∀ r21 : Int, ∀ v22 : ab_Ob, Q20 (some (ab_I r21)) [v22, w1, w2, w3, w4, w5, w6, w7, w8, w9, w10, w11, w12, w13, w14, w15] → Post (some (ab_I r21)) [v22, w1, w2, w3, w4, w5, w6, w7, w8, w9, w10, w11, w12, w13, w14, w15]))))))) :
    ab_J x 0 [some (ab_O 0), some (ab_I a1), some (ab_I a2)] [] [w0, w1, w2, w3, w4, w5, w6, w7, w8, w9, w10, w11, w12, w13, w14, w15] kc ks := ab_go hx kX8_swayed.2 23 [] 0 h
def mX8_hasNotesFrom : ab_M := ((yX8_hasNotesFrom, cX8_hasNotesFrom, 3, (some .boolean)), ([8, 4, 5, 5, 0, 1, 2, 7, 6, 1, 7, 7, 7, 7, 3, 3], [(0, 0), (0, 1), (0, 2), (0, 3), (0, 4), (0, 5), (0, 6), (0, 7), (0, 8), (0, 9), (0, 10), (0, 11), (0, 12), (0, 13), (0, 14), (0, 15)], [false, false, false, false, false, false, false, false, false, false, false, false, false, false, false, false], false, false, 0), (false, 8, 2))
def rX8_hasNotesFrom : List ab_R := [(0, .iload_n 2, 1, 0, 0, 0, [], none),
  (1, .iconst 1, 1, 0, 0, 0, [], none),
  (2, .if_icmp .lt 35, 3, 0, 0, 0, [37], none),
  (5, .iload_n 2, 1, 0, 0, 0, [], none),
  (6, .aload_n 0, 1, 0, 0, 0, [], none),
  (7, .getfield 23, 3, 8, 2, 0, [], none),
  (10, .getfield 121, 3, 5, 3, 0, [], none),
  (13, .if_icmp .gt 24, 3, 0, 0, 0, [37], none),
  (16, .iload_n 1, 1, 0, 0, 0, [], none),
  (17, .ifCond .lt 20, 3, 0, 0, 0, [37], none),
  (20, .iload_n 1, 1, 0, 0, 0, [], none),
  (21, .aload_n 0, 1, 0, 0, 0, [], none),
  (22, .getfield 23, 3, 8, 2, 0, [], none),
  (25, .getfield 121, 3, 5, 3, 0, [], none),
  (28, .iload_n 2, 1, 0, 0, 0, [], none),
  (29, .isub, 1, 0, 0, 0, [], none),
  (30, .if_icmp .gt 7, 3, 0, 0, 0, [37], none),
  (33, .iconst 1, 1, 0, 0, 0, [], none),
  (34, .goto 4, 3, 0, 0, 0, [38], none),
  (37, .iconst 0, 1, 0, 0, 0, [], none),
  (38, .ireturn, 1, 0, 0, 0, [], none)]
set_option maxRecDepth 100000 in
theorem kX8_hasNotesFrom : ab_def_ok mX8_hasNotesFrom rX8_hasNotesFrom := ⟨ab_mok_of 999 99 998 37 (by decide +kernel), [0, 0, 0, 0, 0, 391, 148, 0, 0, 0, 0, 0, 391, 148, 0, 0, 0, 0, 0, 0, 0], by decide +kernel⟩
set_option maxRecDepth 100000 in
set_option maxHeartbeats 100000000 in
theorem vX8_hasNotesFrom_0 {x : ab_Cx} {d mc ms : Nat} {Post : Option ab_V → List ab_Ob → Prop} (hx : ab_At x mX8_hasNotesFrom d mc ms Post) (a1 a2 : Int) (w0 w1 w2 w3 w4 w5 w6 w7 w8 w9 w10 w11 w12 w13 w14 w15 : ab_Ob) (kc ks : Nat)
    (h : ((a2 < 1 → (((0 : Int) = 0 ∨ (0 : Int) = 1) ∧ Post (some (ab_I 0)) [w0, w1, w2, w3, w4, w5, w6, w7, w8, w9, w10, w11, w12, w13, w14, w15])) ∧ (¬ a2 < 1 → (((w3.1 3) < a2 → (((0 : Int) = 0 ∨ (0 : Int) = 1) ∧ Post (some (ab_I 0)) [w0, w1, w2, w3, w4, w5, w6, w7, w8, w9, w10, w11, w12, w13, w14, w15])) ∧ (¬ (w3.1 3) < a2 → ((a1 < 0 → (((0 : Int) = 0 ∨ (0 : Int) = 1) ∧ Post (some (ab_I 0)) [w0, w1, w2, w3, w4, w5, w6, w7, w8, w9, w10, w11, w12, w13, w14, w15])) ∧ (¬ a1 < 0 → ((-2147483648 ≤ (w3.1 3) - a2 ∧ (w3.1 3) - a2 ≤ 2147483647) ∧ ((((w3.1 3) - a2) < a1 → (((0 : Int) = 0 ∨ (0 : Int) = 1) ∧ Post (some (ab_I 0)) [w0, w1, w2, w3, w4, w5, w6, w7, w8, w9, w10, w11, w12, w13, w14, w15])) ∧ (¬ ((w3.1 3) - a2) < a1 → (((1 : Int) = 0 ∨ (1 : Int) = 1) ∧ Post (some (ab_I 1)) [w0, w1, w2, w3, w4, w5, w6, w7, w8, w9, w10, w11, w12, w13, w14, w15]))))))))))) :
    ab_J x 0 [some (ab_O 0), some (ab_I a1), some (ab_I a2)] [] [w0, w1, w2, w3, w4, w5, w6, w7, w8, w9, w10, w11, w12, w13, w14, w15] kc ks := ab_go hx kX8_hasNotesFrom.2 24 [] 0 h
def mX8_twins : ab_M := ((yX8_twins, cX8_twins, 4, (some .int)), ([8, 4, 5, 5, 0, 1, 2, 7, 6, 1, 7, 7, 7, 7, 3, 3], [(0, 0), (0, 1), (0, 2), (0, 3), (0, 4), (0, 5), (0, 6), (0, 7), (0, 8), (0, 9), (0, 10), (0, 11), (0, 12), (0, 13), (0, 14), (0, 15)], [true, false, false, false, false, false, false, false, false, false, false, false, false, false, false, false], false, false, 0), (false, 8, 3))
def rX8_twins : List ab_R := [(0, .aload_n 0, 1, 0, 0, 0, [], none),
  (1, .iload_n 1, 1, 0, 0, 0, [], none),
  (2, .iload_n 3, 1, 0, 0, 0, [], none),
  (3, .invokevirtual 317, 3, 0, 0, 0, [], some mX8_hasNotesFrom),
  (6, .ifCond .eq 12, 3, 0, 0, 0, [18], none),
  (9, .aload_n 0, 1, 0, 0, 0, [], none),
  (10, .iload_n 2, 1, 0, 0, 0, [], none),
  (11, .iload_n 3, 1, 0, 0, 0, [], none),
  (12, .invokevirtual 317, 3, 0, 0, 0, [], some mX8_hasNotesFrom),
  (15, .ifCond .ne 9, 3, 0, 0, 0, [24], none),
  (18, .aload_n 0, 1, 0, 0, 0, [], none),
  (19, .iconst 1, 1, 0, 0, 0, [], none),
  (20, .invokevirtual 101, 3, 0, 0, 0, [], some mX8_refuse),
  (23, .ireturn, 1, 0, 0, 0, [], none),
  (24, .aload_n 0, 1, 0, 0, 0, [], none),
  (25, .aload_n 0, 1, 0, 0, 0, [], none),
  (26, .getfield 23, 3, 8, 2, 0, [], none),
  (29, .iload_n 1, 1, 0, 0, 0, [], none),
  (30, .iload_n 2, 1, 0, 0, 0, [], none),
  (31, .iload_n 3, 1, 0, 0, 0, [], none),
  (32, .invokevirtual 320, 3, 0, 0, 0, [], some mX5_areTwins),
  (35, .ifCond .eq 7, 3, 0, 0, 0, [42], none),
  (38, .iconst 1, 1, 0, 0, 0, [], none),
  (39, .goto 4, 3, 0, 0, 0, [43], none),
  (42, .iconst 0, 1, 0, 0, 0, [], none),
  (43, .invokevirtual 124, 3, 0, 0, 0, [], some mX8_grant),
  (46, .ireturn, 1, 0, 0, 0, [], none)]
set_option maxRecDepth 100000 in
theorem kX8_twins : ab_def_ok mX8_twins rX8_twins := ⟨ab_mok_of 995 99 993 994 (by decide +kernel), [0, 0, 0, 996, 0, 0, 0, 0, 996, 0, 0, 0, 453, 0, 0, 0, 391, 0, 0, 0, 1000, 0, 0, 0, 0, 610, 0], by decide +kernel⟩
set_option maxRecDepth 100000 in
set_option maxHeartbeats 100000000 in
theorem vX8_twins_0 {x : ab_Cx} {d mc ms : Nat} {Post : Option ab_V → List ab_Ob → Prop} (hx : ab_At x mX8_twins d mc ms Post) (a1 a2 a3 : Int) (w0 w1 w2 w3 w4 w5 w6 w7 w8 w9 w10 w11 w12 w13 w14 w15 : ab_Ob) (kc ks : Nat)
    (h : (∃ Q1 : Option ab_V → List ab_Ob → Prop, ab_Ct d 0 0 mX8_hasNotesFrom [ab_O 0, ab_I a1, ab_I a3] [w0, w1, w2, w3, w4, w5, w6, w7, w8, w9, w10, w11, w12, w13, w14, w15] Q1 ∧ (∀ r2 : Int, Q1 (some (ab_I r2)) [w0, w1, w2, w3, w4, w5, w6, w7, w8, w9, w10, w11, w12, w13, w14, w15] → ((r2 = 0 → (∃ Q3 : Option ab_V → List ab_Ob → Prop, ab_Ct d 0 0 mX8_refuse [ab_O 0, ab_I 1] [w0, w1, w2, w3, w4, w5, w6, w7, w8, w9, w10, w11, w12, w13, w14, w15] Q3 ∧ (∀ r4 : Int, ∀ v5 : ab_Ob, Q3 (some (ab_I r4)) [v5, w1, w2, w3, w4, w5, w6, w7, w8, w9, w10, w11, w12, w13, w14, w15] → Post (some (ab_I r4)) [v5, w1, w2, w3, w4, w5, w6, w7, w8, w9, w10, w11, w12, w13, w14, w15]))) ∧ (¬ r2 = 0 → (∃ Q6 : Option ab_V → List ab_Ob → Prop, ab_Ct d 0 0 mX8_hasNotesFrom [ab_O 0, ab_I a2, ab_I a3] [w0, w1, w2, w3, w4, w5, w6, w7, w8, w9, w10, w11, w12, w13, w14, w15] Q6 ∧ (∀ r7 : Int, Q6 (some (ab_I r7)) [w0, w1, w2, w3, w4, w5, w6, w7, w8, w9, w10, w11, w12, w13, w14, w15] → ((¬ r7 = 0 → (∃ Q8 : Option ab_V → List ab_Ob → Prop, ab_Ct d 0 0 mX5_areTwins [ab_O 0, ab_I a1, ab_I a2, ab_I a3] [w3] Q8 ∧ (∀ r9 : Int, Q8 (some (ab_I r9)) [w3] → ((r9 = 0 → (∃ Q10 : Option ab_V → List ab_Ob → Prop, ab_Ct d 0 0 mX8_grant [ab_O 0, ab_I 0] [w0, w1, w2, w3, w4, w5, w6, w7, w8, w9, w10, w11, w12, w13, w14, w15] Q10 ∧ (∀ r11 : Int, ∀ v12 : ab_Ob, Q10 (some (ab_I r11)) [v12, w1, w2, w3, w4, w5, w6, w7, w8, w9, w10, w11, w12, w13, w14, w15] → Post (some (ab_I r11)) [v12, w1, w2, w3, w4, w5, w6, w7, w8, w9, w10, w11, w12, w13, w14, w15]))) ∧ (¬ r9 = 0 → (∃ Q13 : Option ab_V → List ab_Ob → Prop, ab_Ct d 0 0 mX8_grant [ab_O 0, ab_I 1] [w0, w1, w2, w3, w4, w5, w6, w7, w8, w9, w10, w11, w12, w13, w14, w15] Q13 ∧ (∀ r14 : Int, ∀ v15 : ab_Ob, Q13 (some (ab_I r14)) [v15, w1, w2, w3, w4, w5, w6, w7, w8, w9, w10, w11, w12, w13, w14, w15] → Post (some (ab_I r14)) [v15, w1, w2, w3, w4, w5, w6, w7, w8, w9, w10, w11, w12, w13, w14, w15]))))))) ∧ (r7 = 0 → (∃ Q16 : Option ab_V → List ab_Ob → Prop, ab_Ct d 0 0 mX8_refuse [ab_O 0, ab_I 1] [w0, w1, w2, w3, w4, w5, w6, w7, w8, w9, w10, w11, w12, w13, w14, w15] Q16 ∧ (∀ r17 : Int, ∀ v18 : ab_Ob, Q16 (some (ab_I r17)) [v18, w1, w2, w3, w4, w5, w6, w7, w8, w9, w10, w11, w12, w13, w14, w15] → Post (some (ab_I r17)) [v18, w1, w2, w3, w4, w5, w6, w7, w8, w9, w10, w11, w12, w13, w14, w15]))))))))))) :
    ab_J x 0 [some (ab_O 0), some (ab_I a1), some (ab_I a2), some (ab_I a3)] [] [w0, w1, w2, w3, w4, w5, w6, w7, w8, w9, w10, w11, w12, w13, w14, w15] kc ks := ab_go hx kX8_twins.2 26 [] 0 h
def mX8_twin : ab_M := ((yX8_twin, cX8_twin, 5, (some .int)), ([8, 4, 5, 5, 0, 1, 2, 7, 6, 1, 7, 7, 7, 7, 3, 3], [(0, 0), (0, 1), (0, 2), (0, 3), (0, 4), (0, 5), (0, 6), (0, 7), (0, 8), (0, 9), (0, 10), (0, 11), (0, 12), (0, 13), (0, 14), (0, 15)], [true, false, false, false, false, false, false, false, false, false, false, false, false, false, false, false], false, false, 0), (false, 8, 1))
def rX8_twin : List ab_R := [(0, .aload_n 0, 1, 0, 0, 0, [], none),
  (1, .invokevirtual 130, 3, 0, 0, 0, [], some mX8_hasPiece),
  (4, .ifCond .eq 12, 3, 0, 0, 0, [16], none),
  (7, .iload_n 1, 1, 0, 0, 0, [], none),
  (8, .ifCond .lt 8, 3, 0, 0, 0, [16], none),
  (11, .iload_n 1, 1, 0, 0, 0, [], none),
  (12, .iconst 2, 1, 0, 0, 0, [], none),
  (13, .if_icmp .le 9, 3, 0, 0, 0, [22], none),
  (16, .aload_n 0, 1, 0, 0, 0, [], none),
  (17, .iconst 1, 1, 0, 0, 0, [], none),
  (18, .invokevirtual 101, 3, 0, 0, 0, [], some mX8_refuse),
  (21, .ireturn, 1, 0, 0, 0, [], none),
  (22, .aload_n 0, 1, 0, 0, 0, [], none),
  (23, .getfield 23, 3, 8, 2, 0, [], none),
  (26, .getfield 121, 3, 5, 3, 0, [], none),
  (29, .iconst 2, 1, 0, 0, 0, [], none),
  (30, .idiv, 1, 0, 0, 0, [], none),
  (31, .istore_n 2, 1, 0, 0, 0, [], none),
  (32, .iload_n 2, 1, 0, 0, 0, [], none),
  (33, .iconst 1, 1, 0, 0, 0, [], none),
  (34, .if_icmp .lt 73, 3, 0, 0, 0, [107], none),
  (37, .iconst 0, 1, 0, 0, 0, [], none),
  (38, .istore_n 3, 1, 0, 0, 0, [], none),
  (39, .iload_n 3, 1, 0, 0, 0, [], none),
  (40, .iconst 2, 1, 0, 0, 0, [], none),
  (41, .iload_n 2, 1, 0, 0, 0, [], none),
  (42, .imul, 1, 0, 0, 0, [], none),
  (43, .iadd, 1, 0, 0, 0, [], none),
  (44, .aload_n 0, 1, 0, 0, 0, [], none),
  (45, .getfield 23, 3, 8, 2, 0, [], none),
  (48, .getfield 121, 3, 5, 3, 0, [], none),
  (51, .if_icmp .gt 50, 3, 0, 0, 0, [101], none),
  (54, .aload_n 0, 1, 0, 0, 0, [], none),
  (55, .getfield 23, 3, 8, 2, 0, [], none),
  (58, .iload_n 3, 1, 0, 0, 0, [], none),
  (59, .iload_n 2, 1, 0, 0, 0, [], none),
  (60, .invokevirtual 324, 3, 0, 0, 0, [], some mX5_nextTwin),
  (63, .istore 4, 2, 0, 0, 0, [], none),
  (65, .iload 4, 2, 0, 0, 0, [], none),
  (67, .iconst (-1), 1, 0, 0, 0, [], none),
  (68, .if_icmp .eq 27, 3, 0, 0, 0, [95], none),
  (71, .aload_n 0, 1, 0, 0, 0, [], none),
  (72, .iload_n 1, 1, 0, 0, 0, [], none),
  (73, .ifCond .ne 7, 3, 0, 0, 0, [80], none),
  (76, .iload_n 2, 1, 0, 0, 0, [], none),
  (77, .goto 14, 3, 0, 0, 0, [91], none),
  (80, .iload_n 1, 1, 0, 0, 0, [], none),
  (81, .iconst 1, 1, 0, 0, 0, [], none),
  (82, .if_icmp .ne 7, 3, 0, 0, 0, [89], none),
  (85, .iload_n 3, 1, 0, 0, 0, [], none),
  (86, .goto 5, 3, 0, 0, 0, [91], none),
  (89, .iload 4, 2, 0, 0, 0, [], none),
  (91, .invokevirtual 124, 3, 0, 0, 0, [], some mX8_grant),
  (94, .ireturn, 1, 0, 0, 0, [], none),
  (95, .iinc 3 1, 3, 0, 0, 0, [], none),
  (98, .goto (-59), 3, 0, 0, 0, [39], none),
  (101, .iinc 2 (-1), 3, 0, 0, 0, [], none),
  (104, .goto (-72), 3, 0, 0, 0, [32], none),
  (107, .aload_n 0, 1, 0, 0, 0, [], none),
  (108, .iload_n 1, 1, 0, 0, 0, [], none),
  (109, .ifCond .ne 7, 3, 0, 0, 0, [116], none),
  (112, .iconst 0, 1, 0, 0, 0, [], none),
  (113, .goto 5, 3, 0, 0, 0, [118], none),
  (116, .bipush (-2), 2, 0, 0, 0, [], none),
  (118, .invokevirtual 124, 3, 0, 0, 0, [], some mX8_grant),
  (121, .ireturn, 1, 0, 0, 0, [], none)]
set_option maxRecDepth 100000 in
theorem kX8_twin : ab_def_ok mX8_twin rX8_twin := ⟨ab_mok_of 1008 99 1006 1007 (by decide +kernel), [0, 626, 0, 0, 0, 0, 0, 0, 0, 0, 453, 0, 0, 391, 148, 0, 0, 0, 0, 0, 0, 0, 0, 0, 0, 0, 0, 0, 0, 391, 148, 0, 0, 391, 0, 0, 1009, 0, 0, 0, 0, 0, 0, 0, 0, 0, 0, 0, 0, 0, 0, 0, 610, 0, 0, 0, 0, 0, 0, 0, 0, 0, 0, 0, 610, 0], by decide +kernel⟩
set_option maxRecDepth 100000 in
set_option maxHeartbeats 100000000 in
theorem vX8_twin_0 {x : ab_Cx} {d mc ms : Nat} {Post : Option ab_V → List ab_Ob → Prop} (hx : ab_At x mX8_twin d mc ms Post) (a1 : Int) (w0 w1 w2 w3 w4 w5 w6 w7 w8 w9 w10 w11 w12 w13 w14 w15 : ab_Ob) (kc ks : Nat)
    (h : (∃ Q1 : Option ab_V → List ab_Ob → Prop, ab_Ct d 0 0 mX8_hasPiece [ab_O 0] [w0, w1, w2, w3, w4, w5, w6, w7, w8, w9, w10, w11, w12, w13, w14, w15] Q1 ∧ (∀ r2 : Int, Q1 (some (ab_I r2)) [w0, w1, w2, w3, w4, w5, w6, w7, w8, w9, w10, w11, w12, w13, w14, w15] → ((r2 = 0 → (∃ Q3 : Option ab_V → List ab_Ob → Prop, ab_Ct d 0 0 mX8_refuse [ab_O 0, ab_I 1] [w0, w1, w2, w3, w4, w5, w6, w7, w8, w9, w10, w11, w12, w13, w14, w15] Q3 ∧ (∀ r4 : Int, ∀ v5 : ab_Ob, Q3 (some (ab_I r4)) [v5, w1, w2, w3, w4, w5, w6, w7, w8, w9, w10, w11, w12, w13, w14, w15] → Post (some (ab_I r4)) [v5, w1, w2, w3, w4, w5, w6, w7, w8, w9, w10, w11, w12, w13, w14, w15]))) ∧ (¬ r2 = 0 → ((a1 < 0 → (∃ Q6 : Option ab_V → List ab_Ob → Prop, ab_Ct d 0 0 mX8_refuse [ab_O 0, ab_I 1] [w0, w1, w2, w3, w4, w5, w6, w7, w8, w9, w10, w11, w12, w13, w14, w15] Q6 ∧ (∀ r7 : Int, ∀ v8 : ab_Ob, Q6 (some (ab_I r7)) [v8, w1, w2, w3, w4, w5, w6, w7, w8, w9, w10, w11, w12, w13, w14, w15] → Post (some (ab_I r7)) [v8, w1, w2, w3, w4, w5, w6, w7, w8, w9, w10, w11, w12, w13, w14, w15]))) ∧ (¬ a1 < 0 → ((a1 ≤ 2 → ((¬ (2 : Int) = 0) ∧ ((-2147483648 ≤ (Int.tdiv (w3.1 3) 2) ∧ (Int.tdiv (w3.1 3) 2) ≤ 2147483647) ∧ ab_J x 32 [some (ab_O 0), some (ab_I a1), some (ab_I (Int.tdiv (w3.1 3) 2)), none, none] [] [w0, w1, w2, w3, w4, w5, w6, w7, w8, w9, w10, w11, w12, w13, w14, w15] kc ks))) ∧ (¬ a1 ≤ 2 → (∃ Q9 : Option ab_V → List ab_Ob → Prop, ab_Ct d 0 0 mX8_refuse [ab_O 0, ab_I 1] [w0, w1, w2, w3, w4, w5, w6, w7, w8, w9, w10, w11, w12, w13, w14, w15] Q9 ∧ (∀ r10 : Int, ∀ v11 : ab_Ob, Q9 (some (ab_I r10)) [v11, w1, w2, w3, w4, w5, w6, w7, w8, w9, w10, w11, w12, w13, w14, w15] → Post (some (ab_I r10)) [v11, w1, w2, w3, w4, w5, w6, w7, w8, w9, w10, w11, w12, w13, w14, w15]))))))))))) :
    ab_J x 0 [some (ab_O 0), some (ab_I a1), none, none, none] [] [w0, w1, w2, w3, w4, w5, w6, w7, w8, w9, w10, w11, w12, w13, w14, w15] kc ks := ab_go hx kX8_twin.2 19 [(32, [true, true, true, false, false]), (39, [true, true, true, true, false])] 0 h
set_option maxRecDepth 100000 in
set_option maxHeartbeats 100000000 in
theorem vX8_twin_32 {x : ab_Cx} {d mc ms : Nat} {Post : Option ab_V → List ab_Ob → Prop} (hx : ab_At x mX8_twin d mc ms Post) (l1 l2 : Int) (w0 w1 w2 w3 w4 w5 w6 w7 w8 w9 w10 w11 w12 w13 w14 w15 : ab_Ob) (kc ks : Nat)
    (h : ((l2 < 1 → ((¬ l1 = 0 → (∃ Q1 : Option ab_V → List ab_Ob → Prop, ab_Ct d 0 0 mX8_grant [ab_O 0, ab_I (-2)] [w0, w1, w2, w3, w4, w5, w6, w7, w8, w9, w10, w11, w12, w13, w14, w15] Q1 ∧ (∀ r2 : Int, ∀ v3 : ab_Ob, Q1 (some (ab_I r2)) [v3, w1, w2, w3, w4, w5, w6, w7, w8, w9, w10, w11, w12, w13, w14, w15] → Post (some (ab_I r2)) [v3, w1, w2, w3, w4, w5, w6, w7, w8, w9, w10, w11, w12, w13, w14, w15]))) ∧ (l1 = 0 → (∃ Q4 : Option ab_V → List ab_Ob → Prop, ab_Ct d 0 0 mX8_grant [ab_O 0, ab_I 0] [w0, w1, w2, w3, w4, w5, w6, w7, w8, w9, w10, w11, w12, w13, w14, w15] Q4 ∧ (∀ r5 : Int, ∀ v6 : ab_Ob, Q4 (some (ab_I r5)) [v6, w1, w2, w3, w4, w5, w6, w7, w8, w9, w10, w11, w12, w13, w14, w15] → Post (some (ab_I r5)) [v6, w1, w2, w3, w4, w5, w6, w7, w8, w9, w10, w11, w12, w13, w14, w15]))))) ∧ (¬ l2 < 1 → ab_J x 39 [some (ab_O 0), some (ab_I l1), some (ab_I l2), some (ab_I 0), none] [] [w0, w1, w2, w3, w4, w5, w6, w7, w8, w9, w10, w11, w12, w13, w14, w15] kc ks))) :
    ab_J x 32 [some (ab_O 0), some (ab_I l1), some (ab_I l2), none, none] [] [w0, w1, w2, w3, w4, w5, w6, w7, w8, w9, w10, w11, w12, w13, w14, w15] kc ks := ab_go hx kX8_twin.2 14 [(32, [true, true, true, false, false]), (39, [true, true, true, true, false])] 32 h
set_option maxRecDepth 100000 in
set_option maxHeartbeats 100000000 in
theorem vX8_twin_39 {x : ab_Cx} {d mc ms : Nat} {Post : Option ab_V → List ab_Ob → Prop} (hx : ab_At x mX8_twin d mc ms Post) (l1 l2 l3 : Int) (w0 w1 w2 w3 w4 w5 w6 w7 w8 w9 w10 w11 w12 w13 w14 w15 : ab_Ob) (kc ks : Nat)
    (h : ((-2147483648 ≤ 2 * l2 ∧ 2 * l2 ≤ 2147483647) ∧ ((-2147483648 ≤ l3 + (2 * l2) ∧ l3 + (2 * l2) ≤ 2147483647) ∧ (((w3.1 3) < (l3 + (2 * l2)) → ((-2147483648 ≤ l2 + (-1) ∧ l2 + (-1) ≤ 2147483647) ∧ ab_J x 32 [some (ab_O 0), some (ab_I l1), some (ab_I (l2 + (-1))), none, none] [] [w0, w1, w2, w3, w4, w5, w6, w7, w8, w9, w10, w11, w12, w13, w14, w15] kc ks)) ∧ (¬ (w3.1 3) < (l3 + (2 * l2)) → (∃ Q1 : Option ab_V → List ab_Ob → Prop, ab_Ct d 0 0 mX5_nextTwin [ab_O 0, ab_I l3, ab_I l2] [w3] Q1 ∧ (∀ r2 : Int, Q1 (some (ab_I r2)) [w3] → ((r2 = (-1) → ((-2147483648 ≤ l3 + 1 ∧ l3 + 1 ≤ 2147483647) ∧ ab_J x 39 [some (ab_O 0), some (ab_I l1), some (ab_I l2), some (ab_I (l3 + 1)), none] [] [w0, w1, w2, w3, w4, w5, w6, w7, w8, w9, w10, w11, w12, w13, w14, w15] kc ks)) ∧ (¬ r2 = (-1) → ((¬ l1 = 0 → ((¬ l1 = 1 → (∃ Q3 : Option ab_V → List ab_Ob → Prop, ab_Ct d 0 0 mX8_grant [ab_O 0, ab_I r2] [w0, w1, w2, w3, w4, w5, w6, w7, w8, w9, w10, w11, w12, w13, w14, w15] Q3 ∧ (∀ r4 : Int, ∀ v5 : ab_Ob, Q3 (some (ab_I r4)) [v5, w1, w2, w3, w4, w5, w6, w7, w8, w9, w10, w11, w12, w13, w14, w15] → Post (some (ab_I r4)) [v5, w1, w2, w3, w4, w5, w6, w7, w8, w9, w10, w11, w12, w13, w14, w15]))) ∧ (l1 = 1 → (∃ Q6 : Option ab_V → List ab_Ob → Prop, ab_Ct d 0 0 mX8_grant [ab_O 0, ab_I l3] [w0, w1, w2, w3, w4, w5, w6, w7, w8, w9, w10, w11, w12, w13, w14, w15] Q6 ∧ (∀ r7 : Int, ∀ v8 : ab_Ob, Q6 (some (ab_I r7)) [v8, w1, w2, w3, w4, w5, w6, w7, w8, w9, w10, w11, w12, w13, w14, w15] → Post (some (ab_I r7)) [v8, w1, w2, w3, w4, w5, w6, w7, w8, w9, w10, w11, w12, w13, w14, w15]))))) ∧ (l1 = 0 → (∃ Q9 : Option ab_V → List ab_Ob → Prop, ab_Ct d 0 0 mX8_grant [ab_O 0, ab_I l2] [w0, w1, w2, w3, w4, w5, w6, w7, w8, w9, w10, w11, w12, w13, w14, w15] Q9 ∧ (∀ r10 : Int, ∀ v11 : ab_Ob, Q9 (some (ab_I r10)) [v11, w1, w2, w3, w4, w5, w6, w7, w8, w9, w10, w11, w12, w13, w14, w15] → Post (some (ab_I r10)) [v11, w1, w2, w3, w4, w5, w6, w7, w8, w9, w10, w11, w12, w13, w14, w15]))))))))))))) :
    ab_J x 39 [some (ab_O 0), some (ab_I l1), some (ab_I l2), some (ab_I l3), none] [] [w0, w1, w2, w3, w4, w5, w6, w7, w8, w9, w10, w11, w12, w13, w14, w15] kc ks := ab_go hx kX8_twin.2 32 [(32, [true, true, true, false, false]), (39, [true, true, true, true, false])] 39 h
