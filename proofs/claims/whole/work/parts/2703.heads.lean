def mX8_breaksBy : ab_M := ((yX8_breaksBy, cX8_breaksBy, 4, (some .int)), ([8, 4, 5, 5, 0, 1, 2, 7, 6, 1, 7, 7, 7, 7, 3, 3], [(0, 0), (0, 1), (0, 2), (0, 3), (0, 4), (0, 5), (0, 6), (0, 7), (0, 8), (0, 9), (0, 10), (0, 11), (0, 12), (0, 13), (0, 14), (0, 15)], [true, false, false, false, false, true, false, false, false, false, false, false, false, false, false, false], true, true, 0), (false, 8, 3))
def rX8_breaksBy : List ab_R := [(0, .aload_n 0, 1, 0, 0, 0, [], none),
  (1, .iload_n 1, 1, 0, 0, 0, [], none),
  (2, .iload_n 2, 1, 0, 0, 0, [], none),
  (3, .invokevirtual 184, 3, 0, 0, 0, [], some mX8_hasSpan),
  (6, .ifCond .eq 13, 3, 0, 0, 0, [19], none),
  (9, .iload_n 3, 1, 0, 0, 0, [], none),
  (10, .iload_n 1, 1, 0, 0, 0, [], none),
  (11, .if_icmp .lt 8, 3, 0, 0, 0, [19], none),
  (14, .iload_n 3, 1, 0, 0, 0, [], none),
  (15, .iload_n 2, 1, 0, 0, 0, [], none),
  (16, .if_icmp .le 9, 3, 0, 0, 0, [25], none),
  (19, .aload_n 0, 1, 0, 0, 0, [], none),
  (20, .iconst 1, 1, 0, 0, 0, [], none),
  (21, .invokevirtual 101, 3, 0, 0, 0, [], some mX8_refuse),
  (24, .ireturn, 1, 0, 0, 0, [], none),
  (25, .aload_n 0, 1, 0, 0, 0, [], none),
  (26, .aload_n 0, 1, 0, 0, 0, [], none),
  (27, .invokevirtual 188, 3, 0, 0, 0, [], some mX8_freshSpans),
  (30, .iload_n 1, 1, 0, 0, 0, [], none),
  (31, .iload_n 2, 1, 0, 0, 0, [], none),
  (32, .iload_n 3, 1, 0, 0, 0, [], none),
  (33, .invokevirtual 202, 3, 0, 0, 0, [], some mX1_cell),
  (36, .invokevirtual 124, 3, 0, 0, 0, [], some mX8_grant),
  (39, .ireturn, 1, 0, 0, 0, [], none)]
set_option maxRecDepth 100000 in
theorem kX8_breaksBy : ab_def_ok mX8_breaksBy rX8_breaksBy := ⟨ab_mok_of 763 99 761 762 (by decide +kernel), [0, 0, 0, 741, 0, 0, 0, 0, 0, 0, 0, 0, 0, 453, 0, 0, 0, 650, 0, 0, 0, 764, 610, 0], by decide +kernel⟩
set_option maxRecDepth 100000 in
set_option maxHeartbeats 100000000 in
theorem vX8_breaksBy_0 {x : ab_Cx} {d mc ms : Nat} {Post : Option ab_V → List ab_Ob → Prop} (hx : ab_At x mX8_breaksBy d mc ms Post) (a1 a2 a3 : Int) (w0 w1 w2 w3 w4 w5 w6 w7 w8 w9 w10 w11 w12 w13 w14 w15 : ab_Ob) (kc ks : Nat)
    (h : (∃ Q1 : Option ab_V → List ab_Ob → Prop, ab_Ct d 0 0 mX8_hasSpan [ab_O 0, ab_I a1, ab_I a2] [w0, w1, w2, w3, w4, w5, w6, w7, w8, w9, w10, w11, w12, w13, w14, w15] Q1 ∧ (∀ r2 : Int, Q1 (some (ab_I r2)) [w0, w1, w2, w3, w4, w5, w6, w7, w8, w9, w10, w11, w12, w13, w14, w15] → ((r2 = 0 → (∃ Q3 : Option ab_V → List ab_Ob → Prop, ab_Ct d 0 0 mX8_refuse [ab_O 0, ab_I 1] [w0, w1, w2, w3, w4, w5, w6, w7, w8, w9, w10, w11, w12, w13, w14, w15] Q3 ∧ (∀ r4 : Int, ∀ v5 : ab_Ob, Q3 (some (ab_I r4)) [v5, w1, w2, w3, w4, w5, w6, w7, w8, w9, w10, w11, w12, w13, w14, w15] → Post (some (ab_I r4)) [v5, w1, w2, w3, w4, w5, w6, w7, w8, w9, w10, w11, w12, w13, w14, w15]))) ∧ (¬ r2 = 0 → ((a3 < a1 → (∃ Q6 : Option ab_V → List ab_Ob → Prop, ab_Ct d 0 0 mX8_refuse [ab_O 0, ab_I 1] [w0, w1, w2, w3, w4, w5, w6, w7, w8, w9, w10, w11, w12, w13, w14, w15] Q6 ∧ (∀ r7 : Int, ∀ v8 : ab_Ob, Q6 (some (ab_I r7)) [v8, w1, w2, w3, w4, w5, w6, w7, w8, w9, w10, w11, w12, w13, w14, w15] → Post (some (ab_I r7)) [v8, w1, w2, w3, w4, w5, w6, w7, w8, w9, w10, w11, w12, w13, w14, w15]))) ∧ (¬ a3 < a1 → ((a3 ≤ a2 → (∃ mc9 ms10 : Nat, (kc + mc9 ≤ mc ∧ ks + ms10 ≤ ms) ∧ ∃ Q11 : Option ab_V → List ab_Ob → Prop, ab_Ct d mc9 ms10 mX8_freshSpans [ab_O 0] [w0, w1, w2, w3, w4, w5, w6, w7, w8, w9, w10, w11, w12, w13, w14, w15] Q11 ∧ (∀ v12 : ab_Ob, ∀ v13 : ab_Ob, Q11 (some (ab_O 5)) [v12, w1, w2, w3, w4, v13, w6, w7, w8, w9, w10, w11, w12, w13, w14, w15] → (∃ Q14 : Option ab_V → List ab_Ob → Prop, ab_Ct d 0 0 mX1_cell [ab_O 0, ab_I a1, ab_I a2, ab_I a3] [v13] Q14 ∧ (∀ r15 : Int, Q14 (some (ab_I r15)) [v13] → (∃ Q16 : Option ab_V → List ab_Ob → Prop, ab_Ct d 0 0 mX8_grant [ab_O 0, ab_I r15] [v12, w1, w2, w3, w4, v13, w6, w7, w8, w9, w10, w11, w12, w13, w14, w15] Q16 ∧ (∀ r17 : Int, ∀ v18 : ab_Ob, Q16 (some (ab_I r17)) [v18, w1, w2, w3, w4, v13, w6, w7, w8, w9, w10, w11, w12, w13, w14, w15] → Post (some (ab_I r17)) [v18, w1, w2, w3, w4, v13, w6, w7, w8, w9, w10, w11, w12, w13, w14, w15]))))))) ∧ (¬ a3 ≤ a2 → (∃ Q19 : Option ab_V → List ab_Ob → Prop, ab_Ct d 0 0 mX8_refuse [ab_O 0, ab_I 1] [w0, w1, w2, w3, w4, w5, w6, w7, w8, w9, w10, w11, w12, w13, w14, w15] Q19 ∧ (∀ r20 : Int, ∀ v21 : ab_Ob, Q19 (some (ab_I r20)) [v21, w1, w2, w3, w4, w5, w6, w7, w8, w9, w10, w11, w12, w13, w14, w15] → Post (some (ab_I r20)) [v21, w1, w2, w3, w4, w5, w6, w7, w8, w9, w10, w11, w12, w13, w14, w15]))))))))))) :
    ab_J x 0 [some (ab_O 0), some (ab_I a1), some (ab_I a2), some (ab_I a3)] [] [w0, w1, w2, w3, w4, w5, w6, w7, w8, w9, w10, w11, w12, w13, w14, w15] kc ks := ab_go hx kX8_breaksBy.2 24 [] 0 h
def mX8_ways : ab_M := ((yX8_ways, cX8_ways, 4, (some .long)), ([8, 4, 5, 5, 0, 1, 2, 7, 6, 1, 7, 7, 7, 7, 3, 3], [(0, 0), (0, 1), (0, 2), (0, 3), (0, 4), (0, 5), (0, 6), (0, 7), (0, 8), (0, 9), (0, 10), (0, 11), (0, 12), (0, 13), (0, 14), (0, 15)], [true, false, false, false, false, true, true, false, false, false, false, false, false, false, false, false], true, true, 0), (false, 8, 2))
def rX8_ways : List ab_R := [(0, .aload_n 0, 1, 0, 0, 0, [], none),
  (1, .iload_n 1, 1, 0, 0, 0, [], none),
  (2, .iload_n 2, 1, 0, 0, 0, [], none),
  (3, .invokevirtual 184, 3, 0, 0, 0, [], some mX8_hasSpan),
  (6, .ifCond .ne 10, 3, 0, 0, 0, [16], none),
  (9, .aload_n 0, 1, 0, 0, 0, [], none),
  (10, .iconst 1, 1, 0, 0, 0, [], none),
  (11, .invokevirtual 101, 3, 0, 0, 0, [], some mX8_refuse),
  (14, .i2l, 1, 0, 0, 0, [], none),
  (15, .lreturn, 1, 0, 0, 0, [], none),
  (16, .aload_n 0, 1, 0, 0, 0, [], none),
  (17, .iconst 0, 1, 0, 0, 0, [], none),
  (18, .putfield 9, 3, 8, 0, 0, [], none),
  (21, .aload_n 0, 1, 0, 0, 0, [], none),
  (22, .invokevirtual 188, 3, 0, 0, 0, [], some mX8_freshSpans),
  (25, .astore_n 3, 1, 0, 0, 0, [], none),
  (26, .aload_n 0, 1, 0, 0, 0, [], none),
  (27, .getfield 52, 3, 8, 7, 0, [], none),
  (30, .ifCond .ne 16, 3, 0, 0, 0, [46], none),
  (33, .aload_n 0, 1, 0, 0, 0, [], none),
  (34, .getfield 48, 3, 8, 6, 0, [], none),
  (37, .aload_n 3, 1, 0, 0, 0, [], none),
  (38, .invokevirtual 205, 3, 0, 0, 0, [], some mX2_fill),
  (41, .aload_n 0, 1, 0, 0, 0, [], none),
  (42, .iconst 1, 1, 0, 0, 0, [], none),
  (43, .putfield 52, 3, 8, 7, 0, [], none),
  (46, .aload_n 0, 1, 0, 0, 0, [], none),
  (47, .getfield 48, 3, 8, 6, 0, [], none),
  (50, .aload_n 3, 1, 0, 0, 0, [], none),
  (51, .iload_n 1, 1, 0, 0, 0, [], none),
  (52, .iload_n 2, 1, 0, 0, 0, [], none),
  (53, .invokevirtual 209, 3, 0, 0, 0, [], some mX2_ofBest),
  (56, .ldc2_w 213, 3, 0, 1000000000000, 0, [], none),
  (59, .invokestatic 215, 3, 0, 0, 13, [], none),
  (62, .lreturn, 1, 0, 0, 0, [], none)]
set_option maxRecDepth 100000 in
theorem kX8_ways : ab_def_ok mX8_ways rX8_ways := ⟨ab_mok_of 768 99 766 767 (by decide +kernel), [0, 0, 0, 741, 0, 0, 0, 453, 0, 0, 0, 0, 389, 0, 650, 0, 0, 396, 0, 0, 395, 0, 769, 0, 0, 396, 0, 395, 0, 0, 0, 789, 794, 795, 0], by decide +kernel⟩
set_option maxRecDepth 100000 in
set_option maxHeartbeats 100000000 in
theorem vX8_ways_0 {x : ab_Cx} {d mc ms : Nat} {Post : Option ab_V → List ab_Ob → Prop} (hx : ab_At x mX8_ways d mc ms Post) (a1 a2 : Int) (w0 w1 w2 w3 w4 w5 w6 w7 w8 w9 w10 w11 w12 w13 w14 w15 : ab_Ob) (kc ks : Nat)
    (h : (∃ Q1 : Option ab_V → List ab_Ob → Prop, ab_Ct d 0 0 mX8_hasSpan [ab_O 0, ab_I a1, ab_I a2] [w0, w1, w2, w3, w4, w5, w6, w7, w8, w9, w10, w11, w12, w13, w14, w15] Q1 ∧ (∀ r2 : Int, Q1 (some (ab_I r2)) [w0, w1, w2, w3, w4, w5, w6, w7, w8, w9, w10, w11, w12, w13, w14, w15] → ((¬ r2 = 0 → (∃ mc3 ms4 : Nat, (kc + mc3 ≤ mc ∧ ks + ms4 ≤ ms) ∧ ∃ Q5 : Option ab_V → List ab_Ob → Prop, ab_Ct d mc3 ms4 mX8_freshSpans [ab_O 0] [(ab_pf w0 0 0), w1, w2, w3, w4, w5, w6, w7, w8, w9, w10, w11, w12, w13, w14, w15] Q5 ∧ (∀ v6 : ab_Ob, ∀ v7 : ab_Ob, Q5 (some (ab_O 5)) [v6, w1, w2, w3, w4, v7, w6, w7, w8, w9, w10, w11, w12, w13, w14, w15] → ((¬ (v6.1 7) = 0 → (∃ Q8 : Option ab_V → List ab_Ob → Prop, ab_Ct d 0 0 mX2_ofBest [ab_O 0, ab_O 1, ab_I a1, ab_I a2] [w6, v7] Q8 ∧ (∀ r9 : Int, Q8 (some (ab_L r9)) [w6, v7] → Post (some (ab_L (if 1000000000000 < r9 then 1000000000000 else r9))) [v6, w1, w2, w3, w4, v7, w6, w7, w8, w9, w10, w11, w12, w13, w14, w15]))) ∧ ((v6.1 7) = 0 → (∃ mc10 ms11 : Nat, ((kc + mc3) + mc10 ≤ mc ∧ (ks + ms4) + ms11 ≤ ms) ∧ ∃ Q12 : Option ab_V → List ab_Ob → Prop, ab_Ct d mc10 ms11 mX2_fill [ab_O 0, ab_O 1] [w6, v7] Q12 ∧ (∀ v13 : ab_Ob, Q12 none [v13, v7] → (((1 : Int) = 0 ∨ (1 : Int) = 1) ∧ (∃ Q14 : Option ab_V → List ab_Ob → Prop, ab_Ct d 0 0 mX2_ofBest [ab_O 0, ab_O 1, ab_I a1, ab_I a2] [v13, v7] Q14 ∧ (∀ r15 : Int, Q14 (some (ab_L r15)) [v13, v7] → Post (some (ab_L (if 1000000000000 < r15 then 1000000000000 else r15))) [(ab_pf v6 7 1), w1, w2, w3, w4, v7, v13, w7, w8, w9, w10, w11, w12, w13, w14, w15])))))))))) ∧ (r2 = 0 → (∃ Q16 : Option ab_V → List ab_Ob → Prop, ab_Ct d 0 0 mX8_refuse [ab_O 0, ab_I 1] [w0, w1, w2, w3, w4, w5, w6, w7, w8, w9, w10, w11, w12, w13, w14, w15] Q16 ∧ (∀ r17 : Int, ∀ v18 : ab_Ob, Q16 (some (ab_I r17)) [v18, w1, w2, w3, w4, w5, w6, w7, w8, w9, w10, w11, w12, w13, w14, w15] → Post (some (ab_L r17)) [v18, w1, w2, w3, w4, w5, w6, w7, w8, w9, w10, w11, w12, w13, w14, w15]))))))) :
    ab_J x 0 [some (ab_O 0), some (ab_I a1), some (ab_I a2), none] [] [w0, w1, w2, w3, w4, w5, w6, w7, w8, w9, w10, w11, w12, w13, w14, w15] kc ks := ab_go hx kX8_ways.2 34 [] 0 h
def mX8_splitCost : ab_M := ((yX8_splitCost, cX8_splitCost, 5, (some .int)), ([8, 4, 5, 5, 0, 1, 2, 7, 6, 1, 7, 7, 7, 7, 3, 3], [(0, 0), (0, 1), (0, 2), (0, 3), (0, 4), (0, 5), (0, 6), (0, 7), (0, 8), (0, 9), (0, 10), (0, 11), (0, 12), (0, 13), (0, 14), (0, 15)], [true, false, false, false, false, true, false, false, false, false, false, false, false, false, false, false], true, true, 0), (false, 8, 3))
def rX8_splitCost : List ab_R := [(0, .aload_n 0, 1, 0, 0, 0, [], none),
  (1, .iload_n 1, 1, 0, 0, 0, [], none),
  (2, .iload_n 2, 1, 0, 0, 0, [], none),
  (3, .invokevirtual 184, 3, 0, 0, 0, [], some mX8_hasSpan),
  (6, .ifCond .eq 13, 3, 0, 0, 0, [19], none),
  (9, .iload_n 3, 1, 0, 0, 0, [], none),
  (10, .iload_n 1, 1, 0, 0, 0, [], none),
  (11, .if_icmp .lt 8, 3, 0, 0, 0, [19], none),
  (14, .iload_n 3, 1, 0, 0, 0, [], none),
  (15, .iload_n 2, 1, 0, 0, 0, [], none),
  (16, .if_icmp .lt 9, 3, 0, 0, 0, [25], none),
  (19, .aload_n 0, 1, 0, 0, 0, [], none),
  (20, .iconst 1, 1, 0, 0, 0, [], none),
  (21, .invokevirtual 101, 3, 0, 0, 0, [], some mX8_refuse),
  (24, .ireturn, 1, 0, 0, 0, [], none),
  (25, .aload_n 0, 1, 0, 0, 0, [], none),
  (26, .invokevirtual 188, 3, 0, 0, 0, [], some mX8_freshSpans),
  (29, .astore 4, 2, 0, 0, 0, [], none),
  (31, .aload_n 0, 1, 0, 0, 0, [], none),
  (32, .aload 4, 2, 0, 0, 0, [], none),
  (34, .iload_n 1, 1, 0, 0, 0, [], none),
  (35, .iload_n 2, 1, 0, 0, 0, [], none),
  (36, .iload_n 3, 1, 0, 0, 0, [], none),
  (37, .invokevirtual 221, 3, 0, 0, 0, [], some mX1_leastSplitAt),
  (40, .aload 4, 2, 0, 0, 0, [], none),
  (42, .iload_n 1, 1, 0, 0, 0, [], none),
  (43, .iload_n 2, 1, 0, 0, 0, [], none),
  (44, .invokevirtual 192, 3, 0, 0, 0, [], some mX1_least),
  (47, .isub, 1, 0, 0, 0, [], none),
  (48, .invokevirtual 124, 3, 0, 0, 0, [], some mX8_grant),
  (51, .ireturn, 1, 0, 0, 0, [], none)]
set_option maxRecDepth 100000 in
theorem kX8_splitCost : ab_def_ok mX8_splitCost rX8_splitCost := ⟨ab_mok_of 801 99 799 800 (by decide +kernel), [0, 0, 0, 741, 0, 0, 0, 0, 0, 0, 0, 0, 0, 453, 0, 0, 650, 0, 0, 0, 0, 0, 0, 802, 0, 0, 0, 745, 0, 610, 0], by decide +kernel⟩
set_option maxRecDepth 100000 in
set_option maxHeartbeats 100000000 in
theorem vX8_splitCost_0 {x : ab_Cx} {d mc ms : Nat} {Post : Option ab_V → List ab_Ob → Prop} (hx : ab_At x mX8_splitCost d mc ms Post) (a1 a2 a3 : Int) (w0 w1 w2 w3 w4 w5 w6 w7 w8 w9 w10 w11 w12 w13 w14 w15 : ab_Ob) (kc ks : Nat)
    (h : (∃ Q1 : Option ab_V → List ab_Ob → Prop, ab_Ct d 0 0 mX8_hasSpan [ab_O 0, ab_I a1, ab_I a2] [w0, w1, w2, w3, w4, w5, w6, w7, w8, w9, w10, w11, w12, w13, w14, w15] Q1 ∧ (∀ r2 : Int, Q1 (some (ab_I r2)) [w0, w1, w2, w3, w4, w5, w6, w7, w8, w9, w10, w11, w12, w13, w14, w15] → ((r2 = 0 → (∃ Q3 : Option ab_V → List ab_Ob → Prop, ab_Ct d 0 0 mX8_refuse [ab_O 0, ab_I 1] [w0, w1, w2, w3, w4, w5, w6, w7, w8, w9, w10, w11, w12, w13, w14, w15] Q3 ∧ (∀ r4 : Int, ∀ v5 : ab_Ob, Q3 (some (ab_I r4)) [v5, w1, w2, w3, w4, w5, w6, w7, w8, w9, w10, w11, w12, w13, w14, w15] → Post (some (ab_I r4)) [v5, w1, w2, w3, w4, w5, w6, w7, w8, w9, w10, w11, w12, w13, w14, w15]))) ∧ (¬ r2 = 0 → ((a3 < a1 → (∃ Q6 : Option ab_V → List ab_Ob → Prop, ab_Ct d 0 0 mX8_refuse [ab_O 0, ab_I 1] [w0, w1, w2, w3, w4, w5, w6, w7, w8, w9, w10, w11, w12, w13, w14, w15] Q6 ∧ (∀ r7 : Int, ∀ v8 : ab_Ob, Q6 (some (ab_I r7)) [v8, w1, w2, w3, w4, w5, w6, w7, w8, w9, w10, w11, w12, w13, w14, w15] → Post (some (ab_I r7)) [v8, w1, w2, w3, w4, w5, w6, w7, w8, w9, w10, w11, w12, w13, w14, w15]))) ∧ (¬ a3 < a1 → ((a3 < a2 → (∃ mc9 ms10 : Nat, (kc + mc9 ≤ mc ∧ ks + ms10 ≤ ms) ∧ ∃ Q11 : Option ab_V → List ab_Ob → Prop, ab_Ct d mc9 ms10 mX8_freshSpans [ab_O 0] [w0, w1, w2, w3, w4, w5, w6, w7, w8, w9, w10, w11, w12, w13, w14, w15] Q11 ∧ (∀ v12 : ab_Ob, ∀ v13 : ab_Ob, Q11 (some (ab_O 5)) [v12, w1, w2, w3, w4, v13, w6, w7, w8, w9, w10, w11, w12, w13, w14, w15] → (∃ Q14 : Option ab_V → List ab_Ob → Prop, ab_Ct d 0 0 mX1_leastSplitAt [ab_O 0, ab_I a1, ab_I a2, ab_I a3] [v13] Q14 ∧ (∀ r15 : Int, Q14 (some (ab_I r15)) [v13] → (∃ Q16 : Option ab_V → List ab_Ob → Prop, ab_Ct d 0 0 mX1_least [ab_O 0, ab_I a1, ab_I a2] [v13] Q16 ∧ (∀ r17 : Int, Q16 (some (ab_I r17)) [v13] → ((-2147483648 ≤ r15 - r17 ∧ r15 - r17 ≤ 2147483647) ∧ (∃ Q18 : Option ab_V → List ab_Ob → Prop, ab_Ct d 0 0 mX8_grant [ab_O 0, ab_I (r15 - r17)] [v12, w1, w2, w3, w4, v13, w6, w7, w8, w9, w10, w11, w12, w13, w14, w15] Q18 ∧ (∀ r19 : Int, ∀ v20 : ab_Ob, Q18 (some (ab_I r19)) [v20, w1, w2, w3, w4, v13, w6, w7, w8, w9, w10, w11, w12, w13, w14, w15] → Post (some (ab_I r19)) [v20, w1, w2, w3, w4, v13, w6, w7, w8, w9, w10, w11, w12, w13, w14, w15])))))))))) ∧ (¬ a3 < a2 → (∃ Q21 : Option ab_V → List ab_Ob → Prop, ab_Ct d 0 0 mX8_refuse [ab_O 0, ab_I 1] [w0, w1, w2, w3, w4, w5, w6, w7, w8, w9, w10, w11, w12, w13, w14, w15] Q21 ∧ (∀ r22 : Int, ∀ v23 : ab_Ob, Q21 (some (ab_I r22)) [v23, w1, w2, w3, w4, w5, w6, w7, w8, w9, w10, w11, w12, w13, w14, w15] → Post (some (ab_I r22)) [v23, w1, w2, w3, w4, w5, w6, w7, w8, w9, w10, w11, w12, w13, w14, w15]))))))))))) :
    ab_J x 0 [some (ab_O 0), some (ab_I a1), some (ab_I a2), some (ab_I a3), none] [] [w0, w1, w2, w3, w4, w5, w6, w7, w8, w9, w10, w11, w12, w13, w14, w15] kc ks := ab_go hx kX8_splitCost.2 31 [] 0 h
def mX8_second : ab_M := ((yX8_second, cX8_second, 3, (some .int)), ([8, 4, 5, 5, 0, 1, 2, 7, 6, 1, 7, 7, 7, 7, 3, 3], [(0, 0), (0, 1), (0, 2), (0, 3), (0, 4), (0, 5), (0, 6), (0, 7), (0, 8), (0, 9), (0, 10), (0, 11), (0, 12), (0, 13), (0, 14), (0, 15)], [true, false, false, false, false, true, false, false, false, false, false, false, false, false, false, false], true, true, 0), (false, 8, 2))
def rX8_second : List ab_R := [(0, .aload_n 0, 1, 0, 0, 0, [], none),
  (1, .iload_n 1, 1, 0, 0, 0, [], none),
  (2, .iload_n 2, 1, 0, 0, 0, [], none),
  (3, .invokevirtual 184, 3, 0, 0, 0, [], some mX8_hasSpan),
  (6, .ifCond .ne 9, 3, 0, 0, 0, [15], none),
  (9, .aload_n 0, 1, 0, 0, 0, [], none),
  (10, .iconst 1, 1, 0, 0, 0, [], none),
  (11, .invokevirtual 101, 3, 0, 0, 0, [], some mX8_refuse),
  (14, .ireturn, 1, 0, 0, 0, [], none),
  (15, .aload_n 0, 1, 0, 0, 0, [], none),
  (16, .iload_n 1, 1, 0, 0, 0, [], none),
  (17, .iload_n 2, 1, 0, 0, 0, [], none),
  (18, .if_icmp .ne 8, 3, 0, 0, 0, [26], none),
  (21, .bipush (-2), 2, 0, 0, 0, [], none),
  (23, .goto 12, 3, 0, 0, 0, [35], none),
  (26, .aload_n 0, 1, 0, 0, 0, [], none),
  (27, .invokevirtual 188, 3, 0, 0, 0, [], some mX8_freshSpans),
  (30, .iload_n 1, 1, 0, 0, 0, [], none),
  (31, .iload_n 2, 1, 0, 0, 0, [], none),
  (32, .invokevirtual 224, 3, 0, 0, 0, [], some mX1_nextHead),
  (35, .invokevirtual 124, 3, 0, 0, 0, [], some mX8_grant),
  (38, .ireturn, 1, 0, 0, 0, [], none)]
set_option maxRecDepth 100000 in
theorem kX8_second : ab_def_ok mX8_second rX8_second := ⟨ab_mok_of 810 99 808 809 (by decide +kernel), [0, 0, 0, 741, 0, 0, 0, 453, 0, 0, 0, 0, 0, 0, 0, 0, 650, 0, 0, 811, 610, 0], by decide +kernel⟩
set_option maxRecDepth 100000 in
set_option maxHeartbeats 100000000 in
theorem vX8_second_0 {x : ab_Cx} {d mc ms : Nat} {Post : Option ab_V → List ab_Ob → Prop} (hx : ab_At x mX8_second d mc ms Post) (a1 a2 : Int) (w0 w1 w2 w3 w4 w5 w6 w7 w8 w9 w10 w11 w12 w13 w14 w15 : ab_Ob) (kc ks : Nat)
    (h : (∃ Q1 : Option ab_V → List ab_Ob → Prop, ab_Ct d 0 0 mX8_hasSpan [ab_O 0, ab_I a1, ab_I a2] [w0, w1, w2, w3, w4, w5, w6, w7, w8, w9, w10, w11, w12, w13, w14, w15] Q1 ∧ (∀ r2 : Int, Q1 (some (ab_I r2)) [w0, w1, w2, w3, w4, w5, w6, w7, w8, w9, w10, w11, w12, w13, w14, w15] → ((¬ r2 = 0 → ((¬ a1 = a2 → (∃ mc3 ms4 : Nat, (kc + mc3 ≤ mc ∧ ks + ms4 ≤ ms) ∧ ∃ Q5 : Option ab_V → List ab_Ob → Prop, ab_Ct d mc3 ms4 mX8_freshSpans [ab_O 0] [w0, w1, w2, w3, w4, w5, w6, w7, w8, w9, w10, w11, w12, w13, w14, w15] Q5 ∧ (∀ v6 : ab_Ob, ∀ v7 : ab_Ob, Q5 (some (ab_O 5)) [v6, w1, w2, w3, w4, v7, w6, w7, w8, w9, w10, w11, w12, w13, w14, w15] → (∃ Q8 : Option ab_V → List ab_Ob → Prop, ab_Ct d 0 0 mX1_nextHead [ab_O 0, ab_I a1, ab_I a2] [v7] Q8 ∧ (∀ r9 : Int, Q8 (some (ab_I r9)) [v7] → (∃ Q10 : Option ab_V → List ab_Ob → Prop, ab_Ct d 0 0 mX8_grant [ab_O 0, ab_I r9] [v6, w1, w2, w3, w4, v7, w6, w7, w8, w9, w10, w11, w12, w13, w14, w15] Q10 ∧ (∀ r11 : Int, ∀ v12 : ab_Ob, Q10 (some (ab_I r11)) [v12, w1, w2, w3, w4, v7, w6, w7, w8, w9, w10, w11, w12, w13, w14, w15] → Post (some (ab_I r11)) [v12, w1, w2, w3, w4, v7, w6, w7, w8, w9, w10, w11, w12, w13, w14, w15]))))))) ∧ (a1 = a2 → (∃ Q13 : Option ab_V → List ab_Ob → Prop, ab_Ct d 0 0 mX8_grant [ab_O 0, ab_I (-2)] [w0, w1, w2, w3, w4, w5, w6, w7, w8, w9, w10, w11, w12, w13, w14, w15] Q13 ∧ (∀ r14 : Int, ∀ v15 : ab_Ob, Q13 (some (ab_I r14)) [v15, w1, w2, w3, w4, w5, w6, w7, w8, w9, w10, w11, w12, w13, w14, w15] → Post (some (ab_I r14)) [v15, w1, w2, w3, w4, w5, w6, w7, w8, w9, w10, w11, w12, w13, w14, w15]))))) ∧ (r2 = 0 → (∃ Q16 : Option ab_V → List ab_Ob → Prop, ab_Ct d 0 0 mX8_refuse [ab_O 0, ab_I 1] [w0, w1, w2, w3, w4, w5, w6, w7, w8, w9, w10, w11, w12, w13, w14, w15] Q16 ∧ (∀ r17 : Int, ∀ v18 : ab_Ob, Q16 (some (ab_I r17)) [v18, w1, w2, w3, w4, w5, w6, w7, w8, w9, w10, w11, w12, w13, w14, w15] → Post (some (ab_I r17)) [v18, w1, w2, w3, w4, w5, w6, w7, w8, w9, w10, w11, w12, w13, w14, w15]))))))) :
    ab_J x 0 [some (ab_O 0), some (ab_I a1), some (ab_I a2)] [] [w0, w1, w2, w3, w4, w5, w6, w7, w8, w9, w10, w11, w12, w13, w14, w15] kc ks := ab_go hx kX8_second.2 20 [] 0 h
