def mX8_last : ab_M := ((yX8_last, cX8_last, 3, (some .int)), ([8, 4, 5, 5, 0, 1, 2, 7, 6, 1, 7, 7, 7, 7, 3, 3], [(0, 0), (0, 1), (0, 2), (0, 3), (0, 4), (0, 5), (0, 6), (0, 7), (0, 8), (0, 9), (0, 10), (0, 11), (0, 12), (0, 13), (0, 14), (0, 15)], [true, false, false, true, true, false, false, false, true, false, false, false, false, false, false, false], false, false, 0), (false, 8, 2))
def rX8_last : List ab_R := [(0, .aload_n 0, 1, 0, 0, 0, [], none),
  (1, .iload_n 1, 1, 0, 0, 0, [], none),
  (2, .invokevirtual 151, 3, 0, 0, 0, [], some mX8_hasNote),
  (5, .ifCond .ne 9, 3, 0, 0, 0, [14], none),
  (8, .aload_n 0, 1, 0, 0, 0, [], none),
  (9, .iconst 1, 1, 0, 0, 0, [], none),
  (10, .invokevirtual 101, 3, 0, 0, 0, [], some mX8_refuse),
  (13, .ireturn, 1, 0, 0, 0, [], none),
  (14, .iload_n 2, 1, 0, 0, 0, [], none),
  (15, .iconst 1, 1, 0, 0, 0, [], none),
  (16, .if_icmp .lt 9, 3, 0, 0, 0, [25], none),
  (19, .iload_n 2, 1, 0, 0, 0, [], none),
  (20, .bipush 64, 2, 0, 0, 0, [], none),
  (22, .if_icmp .le 9, 3, 0, 0, 0, [31], none),
  (25, .aload_n 0, 1, 0, 0, 0, [], none),
  (26, .iconst 2, 1, 0, 0, 0, [], none),
  (27, .invokevirtual 101, 3, 0, 0, 0, [], some mX8_refuse),
  (30, .ireturn, 1, 0, 0, 0, [], none),
  (31, .aload_n 0, 1, 0, 0, 0, [], none),
  (32, .iconst 1, 1, 0, 0, 0, [], none),
  (33, .iload_n 1, 1, 0, 0, 0, [], none),
  (34, .aload_n 0, 1, 0, 0, 0, [], none),
  (35, .getfield 23, 3, 8, 2, 0, [], none),
  (38, .getfield 159, 3, 5, 5, 0, [], none),
  (41, .iload_n 1, 1, 0, 0, 0, [], none),
  (42, .iaload, 1, 0, 0, 0, [], none),
  (43, .iload_n 2, 1, 0, 0, 0, [], none),
  (44, .invokevirtual 353, 3, 0, 0, 0, [], some mX8_act),
  (47, .ireturn, 1, 0, 0, 0, [], none)]
set_option maxRecDepth 100000 in
theorem kX8_last : ab_def_ok mX8_last rX8_last := ⟨ab_mok_of 1088 99 1086 1087 (by decide +kernel), [0, 0, 642, 0, 0, 0, 453, 0, 0, 0, 0, 0, 0, 0, 0, 0, 453, 0, 0, 0, 0, 0, 391, 156, 0, 0, 0, 1064, 0], by decide +kernel⟩
set_option maxRecDepth 100000 in
set_option maxHeartbeats 100000000 in
theorem vX8_last_0 {x : ab_Cx} {d mc ms : Nat} {Post : Option ab_V → List ab_Ob → Prop} (hx : ab_At x mX8_last d mc ms Post) (a1 a2 : Int) (w0 w1 w2 w3 w4 w5 w6 w7 w8 w9 w10 w11 w12 w13 w14 w15 : ab_Ob) (kc ks : Nat)
    (h : (∃ Q1 : Option ab_V → List ab_Ob → Prop, ab_Ct d 0 0 mX8_hasNote [ab_O 0, ab_I a1] [w0, w1, w2, w3, w4, w5, w6, w7, w8, w9, w10, w11, w12, w13, w14, w15] Q1 ∧ (∀ r2 : Int, Q1 (some (ab_I r2)) [w0, w1, w2, w3, w4, w5, w6, w7, w8, w9, w10, w11, w12, w13, w14, w15] → ((¬ r2 = 0 → ((a2 < 1 → (∃ Q3 : Option ab_V → List ab_Ob → Prop, ab_Ct d 0 0 mX8_refuse [ab_O 0, ab_I 2] [w0, w1, w2, w3, w4, w5, w6, w7, w8, w9, w10, w11, w12, w13, w14, w15] Q3 ∧ (∀ r4 : Int, ∀ v5 : ab_Ob, Q3 (some (ab_I r4)) [v5, w1, w2, w3, w4, w5, w6, w7, w8, w9, w10, w11, w12, w13, w14, w15] → Post (some (ab_I r4)) [v5, w1, w2, w3, w4, w5, w6, w7, w8, w9, w10, w11, w12, w13, w14, w15]))) ∧ (¬ a2 < 1 → ((a2 ≤ 64 → ((0 ≤ a1 ∧ a1 < (w3.2 5).1) ∧ (∃ Q6 : Option ab_V → List ab_Ob → Prop, ab_Ct d 0 0 mX8_act [ab_O 0, ab_I 1, ab_I a1, ab_I ((w3.2 5).2 a1), ab_I a2] [w0, w1, w2, w3, w4, w5, w6, w7, w8, w9, w10, w11, w12, w13, w14, w15] Q6 ∧ (∀ r7 : Int, ∀ v8 : ab_Ob, ∀ v9 : ab_Ob, ∀ v10 : ab_Ob, ∀ v11 : ab_Ob, Q6 (some (ab_I r7)) [v8, w1, w2, v9, v10, w5, w6, w7, v11, w9, w10, w11, w12, w13, w14, w15] → Post (some (ab_I r7)) [v8, w1, w2, v9, v10, w5, w6, w7, v11, w9, w10, w11, w12, w13, w14, w15])))) ∧ (¬ a2 ≤ 64 → (∃ Q12 : Option ab_V → List ab_Ob → Prop, ab_Ct d 0 0 mX8_refuse [ab_O 0, ab_I 2] [w0, w1, w2, w3, w4, w5, w6, w7, w8, w9, w10, w11, w12, w13, w14, w15] Q12 ∧ (∀ r13 : Int, ∀ v14 : ab_Ob, Q12 (some (ab_I r13)) [v14, w1, w2, w3, w4, w5, w6, w7, w8, w9, w10, w11, w12, w13, w14, w15] → Post (some (ab_I r13)) [v14, w1, w2, w3, w4, w5, w6, w7, w8, w9, w10, w11, w12, w13, w14, w15]))))))) ∧ (r2 = 0 → (∃ Q15 : Option ab_V → List ab_Ob → Prop, ab_Ct d 0 0 mX8_refuse [ab_O 0, ab_I 1] [w0, w1, w2, w3, w4, w5, w6, w7, w8, w9, w10, w11, w12, w13, w14, w15] Q15 ∧ (∀ r16 : Int, ∀ v17 : ab_Ob, Q15 (some (ab_I r16)) [v17, w1, w2, w3, w4, w5, w6, w7, w8, w9, w10, w11, w12, w13, w14, w15] → Post (some (ab_I r16)) [v17, w1, w2, w3, w4, w5, w6, w7, w8, w9, w10, w11, w12, w13, w14, w15]))))))) :
    ab_J x 0 [some (ab_O 0), some (ab_I a1), some (ab_I a2)] [] [w0, w1, w2, w3, w4, w5, w6, w7, w8, w9, w10, w11, w12, w13, w14, w15] kc ks := ab_go hx kX8_last.2 25 [] 0 h
def mX8_weigh : ab_M := ((yX8_weigh, cX8_weigh, 3, (some .int)), ([8, 4, 5, 5, 0, 1, 2, 7, 6, 1, 7, 7, 7, 7, 3, 3], [(0, 0), (0, 1), (0, 2), (0, 3), (0, 4), (0, 5), (0, 6), (0, 7), (0, 8), (0, 9), (0, 10), (0, 11), (0, 12), (0, 13), (0, 14), (0, 15)], [true, false, false, true, true, false, false, false, true, false, false, false, false, false, false, false], false, false, 0), (false, 8, 2))
def rX8_weigh : List ab_R := [(0, .aload_n 0, 1, 0, 0, 0, [], none),
  (1, .iload_n 1, 1, 0, 0, 0, [], none),
  (2, .invokevirtual 178, 3, 0, 0, 0, [], some mX8_hasRule),
  (5, .ifCond .ne 9, 3, 0, 0, 0, [14], none),
  (8, .aload_n 0, 1, 0, 0, 0, [], none),
  (9, .iconst 1, 1, 0, 0, 0, [], none),
  (10, .invokevirtual 101, 3, 0, 0, 0, [], some mX8_refuse),
  (13, .ireturn, 1, 0, 0, 0, [], none),
  (14, .iload_n 2, 1, 0, 0, 0, [], none),
  (15, .ifCond .lt 9, 3, 0, 0, 0, [24], none),
  (18, .iload_n 2, 1, 0, 0, 0, [], none),
  (19, .bipush 99, 2, 0, 0, 0, [], none),
  (21, .if_icmp .le 9, 3, 0, 0, 0, [30], none),
  (24, .aload_n 0, 1, 0, 0, 0, [], none),
  (25, .iconst 2, 1, 0, 0, 0, [], none),
  (26, .invokevirtual 101, 3, 0, 0, 0, [], some mX8_refuse),
  (29, .ireturn, 1, 0, 0, 0, [], none),
  (30, .aload_n 0, 1, 0, 0, 0, [], none),
  (31, .iconst 2, 1, 0, 0, 0, [], none),
  (32, .iload_n 1, 1, 0, 0, 0, [], none),
  (33, .aload_n 0, 1, 0, 0, 0, [], none),
  (34, .getfield 23, 3, 8, 2, 0, [], none),
  (37, .getfield 181, 3, 5, 6, 0, [], none),
  (40, .iload_n 1, 1, 0, 0, 0, [], none),
  (41, .iaload, 1, 0, 0, 0, [], none),
  (42, .iload_n 2, 1, 0, 0, 0, [], none),
  (43, .invokevirtual 353, 3, 0, 0, 0, [], some mX8_act),
  (46, .ireturn, 1, 0, 0, 0, [], none)]
set_option maxRecDepth 100000 in
theorem kX8_weigh : ab_def_ok mX8_weigh rX8_weigh := ⟨ab_mok_of 1092 99 1090 1091 (by decide +kernel), [0, 0, 733, 0, 0, 0, 453, 0, 0, 0, 0, 0, 0, 0, 0, 453, 0, 0, 0, 0, 0, 391, 160, 0, 0, 0, 1064, 0], by decide +kernel⟩
set_option maxRecDepth 100000 in
set_option maxHeartbeats 100000000 in
theorem vX8_weigh_0 {x : ab_Cx} {d mc ms : Nat} {Post : Option ab_V → List ab_Ob → Prop} (hx : ab_At x mX8_weigh d mc ms Post) (a1 a2 : Int) (w0 w1 w2 w3 w4 w5 w6 w7 w8 w9 w10 w11 w12 w13 w14 w15 : ab_Ob) (kc ks : Nat)
    (h : (∃ Q1 : Option ab_V → List ab_Ob → Prop, ab_Ct d 0 0 mX8_hasRule [ab_O 0, ab_I a1] [w0, w1, w2, w3, w4, w5, w6, w7, w8, w9, w10, w11, w12, w13, w14, w15] Q1 ∧ (∀ r2 : Int, Q1 (some (ab_I r2)) [w0, w1, w2, w3, w4, w5, w6, w7, w8, w9, w10, w11, w12, w13, w14, w15] → ((¬ r2 = 0 → ((a2 < 0 → (∃ Q3 : Option ab_V → List ab_Ob → Prop, ab_Ct d 0 0 mX8_refuse [ab_O 0, ab_I 2] [w0, w1, w2, w3, w4, w5, w6, w7, w8, w9, w10, w11, w12, w13, w14, w15] Q3 ∧ (∀ r4 : Int, ∀ v5 : ab_Ob, Q3 (some (ab_I r4)) [v5, w1, w2, w3, w4, w5, w6, w7, w8, w9, w10, w11, w12, w13, w14, w15] → Post (some (ab_I r4)) [v5, w1, w2, w3, w4, w5, w6, w7, w8, w9, w10, w11, w12, w13, w14, w15]))) ∧ (¬ a2 < 0 → ((a2 ≤ 99 → ((0 ≤ a1 ∧ a1 < (w3.2 6).1) ∧ (∃ Q6 : Option ab_V → List ab_Ob → Prop, ab_Ct d 0 0 mX8_act [ab_O 0, ab_I 2, ab_I a1, ab_I ((w3.2 6).2 a1), ab_I a2] [w0, w1, w2, w3, w4, w5, w6, w7, w8, w9, w10, w11, w12, w13, w14, w15] Q6 ∧ (∀ r7 : Int, ∀ v8 : ab_Ob, ∀ v9 : ab_Ob, ∀ v10 : ab_Ob, ∀ v11 : ab_Ob, Q6 (some (ab_I r7)) [v8, w1, w2, v9, v10, w5, w6, w7, v11, w9, w10, w11, w12, w13, w14, w15] → Post (some (ab_I r7)) [v8, w1, w2, v9, v10, w5, w6, w7, v11, w9, w10, w11, w12, w13, w14, w15])))) ∧ (¬ a2 ≤ 99 → (∃ Q12 : Option ab_V → List ab_Ob → Prop, ab_Ct d 0 0 mX8_refuse [ab_O 0, ab_I 2] [w0, w1, w2, w3, w4, w5, w6, w7, w8, w9, w10, w11, w12, w13, w14, w15] Q12 ∧ (∀ r13 : Int, ∀ v14 : ab_Ob, Q12 (some (ab_I r13)) [v14, w1, w2, w3, w4, w5, w6, w7, w8, w9, w10, w11, w12, w13, w14, w15] → Post (some (ab_I r13)) [v14, w1, w2, w3, w4, w5, w6, w7, w8, w9, w10, w11, w12, w13, w14, w15]))))))) ∧ (r2 = 0 → (∃ Q15 : Option ab_V → List ab_Ob → Prop, ab_Ct d 0 0 mX8_refuse [ab_O 0, ab_I 1] [w0, w1, w2, w3, w4, w5, w6, w7, w8, w9, w10, w11, w12, w13, w14, w15] Q15 ∧ (∀ r16 : Int, ∀ v17 : ab_Ob, Q15 (some (ab_I r16)) [v17, w1, w2, w3, w4, w5, w6, w7, w8, w9, w10, w11, w12, w13, w14, w15] → Post (some (ab_I r16)) [v17, w1, w2, w3, w4, w5, w6, w7, w8, w9, w10, w11, w12, w13, w14, w15]))))))) :
    ab_J x 0 [some (ab_O 0), some (ab_I a1), some (ab_I a2)] [] [w0, w1, w2, w3, w4, w5, w6, w7, w8, w9, w10, w11, w12, w13, w14, w15] kc ks := ab_go hx kX8_weigh.2 24 [] 0 h
def mX8_key : ab_M := ((yX8_key, cX8_key, 2, (some .int)), ([8, 4, 5, 5, 0, 1, 2, 7, 6, 1, 7, 7, 7, 7, 3, 3], [(0, 0), (0, 1), (0, 2), (0, 3), (0, 4), (0, 5), (0, 6), (0, 7), (0, 8), (0, 9), (0, 10), (0, 11), (0, 12), (0, 13), (0, 14), (0, 15)], [true, false, false, true, true, false, false, false, true, false, false, false, false, false, false, false], false, false, 0), (false, 8, 1))
def rX8_key : List ab_R := [(0, .aload_n 0, 1, 0, 0, 0, [], none),
  (1, .invokevirtual 130, 3, 0, 0, 0, [], some mX8_hasPiece),
  (4, .ifCond .ne 9, 3, 0, 0, 0, [13], none),
  (7, .aload_n 0, 1, 0, 0, 0, [], none),
  (8, .iconst 1, 1, 0, 0, 0, [], none),
  (9, .invokevirtual 101, 3, 0, 0, 0, [], some mX8_refuse),
  (12, .ireturn, 1, 0, 0, 0, [], none),
  (13, .iload_n 1, 1, 0, 0, 0, [], none),
  (14, .ifCond .lt 9, 3, 0, 0, 0, [23], none),
  (17, .iload_n 1, 1, 0, 0, 0, [], none),
  (18, .bipush 11, 2, 0, 0, 0, [], none),
  (20, .if_icmp .le 9, 3, 0, 0, 0, [29], none),
  (23, .aload_n 0, 1, 0, 0, 0, [], none),
  (24, .iconst 2, 1, 0, 0, 0, [], none),
  (25, .invokevirtual 101, 3, 0, 0, 0, [], some mX8_refuse),
  (28, .ireturn, 1, 0, 0, 0, [], none),
  (29, .aload_n 0, 1, 0, 0, 0, [], none),
  (30, .iconst 3, 1, 0, 0, 0, [], none),
  (31, .iconst 0, 1, 0, 0, 0, [], none),
  (32, .aload_n 0, 1, 0, 0, 0, [], none),
  (33, .getfield 23, 3, 8, 2, 0, [], none),
  (36, .getfield 140, 3, 5, 2, 0, [], none),
  (39, .iload_n 1, 1, 0, 0, 0, [], none),
  (40, .invokevirtual 353, 3, 0, 0, 0, [], some mX8_act),
  (43, .ireturn, 1, 0, 0, 0, [], none)]
set_option maxRecDepth 100000 in
theorem kX8_key : ab_def_ok mX8_key rX8_key := ⟨ab_mok_of 1096 99 1094 1095 (by decide +kernel), [0, 626, 0, 0, 0, 453, 0, 0, 0, 0, 0, 0, 0, 0, 453, 0, 0, 0, 0, 0, 391, 145, 0, 1064, 0], by decide +kernel⟩
set_option maxRecDepth 100000 in
set_option maxHeartbeats 100000000 in
theorem vX8_key_0 {x : ab_Cx} {d mc ms : Nat} {Post : Option ab_V → List ab_Ob → Prop} (hx : ab_At x mX8_key d mc ms Post) (a1 : Int) (w0 w1 w2 w3 w4 w5 w6 w7 w8 w9 w10 w11 w12 w13 w14 w15 : ab_Ob) (kc ks : Nat)
    (h : (∃ Q1 : Option ab_V → List ab_Ob → Prop, ab_Ct d 0 0 mX8_hasPiece [ab_O 0] [w0, w1, w2, w3, w4, w5, w6, w7, w8, w9, w10, w11, w12, w13, w14, w15] Q1 ∧ (∀ r2 : Int, Q1 (some (ab_I r2)) [w0, w1, w2, w3, w4, w5, w6, w7, w8, w9, w10, w11, w12, w13, w14, w15] → ((¬ r2 = 0 → ((a1 < 0 → (∃ Q3 : Option ab_V → List ab_Ob → Prop, ab_Ct d 0 0 mX8_refuse [ab_O 0, ab_I 2] [w0, w1, w2, w3, w4, w5, w6, w7, w8, w9, w10, w11, w12, w13, w14, w15] Q3 ∧ (∀ r4 : Int, ∀ v5 : ab_Ob, Q3 (some (ab_I r4)) [v5, w1, w2, w3, w4, w5, w6, w7, w8, w9, w10, w11, w12, w13, w14, w15] → Post (some (ab_I r4)) [v5, w1, w2, w3, w4, w5, w6, w7, w8, w9, w10, w11, w12, w13, w14, w15]))) ∧ (¬ a1 < 0 → ((a1 ≤ 11 → (∃ Q6 : Option ab_V → List ab_Ob → Prop, ab_Ct d 0 0 mX8_act [ab_O 0, ab_I 3, ab_I 0, ab_I (w3.1 2), ab_I a1] [w0, w1, w2, w3, w4, w5, w6, w7, w8, w9, w10, w11, w12, w13, w14, w15] Q6 ∧ (∀ r7 : Int, ∀ v8 : ab_Ob, ∀ v9 : ab_Ob, ∀ v10 : ab_Ob, ∀ v11 : ab_Ob, Q6 (some (ab_I r7)) [v8, w1, w2, v9, v10, w5, w6, w7, v11, w9, w10, w11, w12, w13, w14, w15] → Post (some (ab_I r7)) [v8, w1, w2, v9, v10, w5, w6, w7, v11, w9, w10, w11, w12, w13, w14, w15]))) ∧ (¬ a1 ≤ 11 → (∃ Q12 : Option ab_V → List ab_Ob → Prop, ab_Ct d 0 0 mX8_refuse [ab_O 0, ab_I 2] [w0, w1, w2, w3, w4, w5, w6, w7, w8, w9, w10, w11, w12, w13, w14, w15] Q12 ∧ (∀ r13 : Int, ∀ v14 : ab_Ob, Q12 (some (ab_I r13)) [v14, w1, w2, w3, w4, w5, w6, w7, w8, w9, w10, w11, w12, w13, w14, w15] → Post (some (ab_I r13)) [v14, w1, w2, w3, w4, w5, w6, w7, w8, w9, w10, w11, w12, w13, w14, w15]))))))) ∧ (r2 = 0 → (∃ Q15 : Option ab_V → List ab_Ob → Prop, ab_Ct d 0 0 mX8_refuse [ab_O 0, ab_I 1] [w0, w1, w2, w3, w4, w5, w6, w7, w8, w9, w10, w11, w12, w13, w14, w15] Q15 ∧ (∀ r16 : Int, ∀ v17 : ab_Ob, Q15 (some (ab_I r16)) [v17, w1, w2, w3, w4, w5, w6, w7, w8, w9, w10, w11, w12, w13, w14, w15] → Post (some (ab_I r16)) [v17, w1, w2, w3, w4, w5, w6, w7, w8, w9, w10, w11, w12, w13, w14, w15]))))))) :
    ab_J x 0 [some (ab_O 0), some (ab_I a1)] [] [w0, w1, w2, w3, w4, w5, w6, w7, w8, w9, w10, w11, w12, w13, w14, w15] kc ks := ab_go hx kX8_key.2 21 [] 0 h
def mX8_move : ab_M := ((yX8_move, cX8_move, 2, (some .int)), ([8, 4, 5, 5, 0, 1, 2, 7, 6, 1, 7, 7, 7, 7, 3, 3], [(0, 0), (0, 1), (0, 2), (0, 3), (0, 4), (0, 5), (0, 6), (0, 7), (0, 8), (0, 9), (0, 10), (0, 11), (0, 12), (0, 13), (0, 14), (0, 15)], [true, false, false, true, true, true, false, false, true, false, false, false, false, false, false, false], true, true, 0), (false, 8, 1))
def rX8_move : List ab_R := [(0, .aload_n 0, 1, 0, 0, 0, [], none),
  (1, .invokevirtual 130, 3, 0, 0, 0, [], some mX8_hasPiece),
  (4, .ifCond .ne 9, 3, 0, 0, 0, [13], none),
  (7, .aload_n 0, 1, 0, 0, 0, [], none),
  (8, .iconst 1, 1, 0, 0, 0, [], none),
  (9, .invokevirtual 101, 3, 0, 0, 0, [], some mX8_refuse),
  (12, .ireturn, 1, 0, 0, 0, [], none),
  (13, .iload_n 1, 1, 0, 0, 0, [], none),
  (14, .bipush (-99), 2, 0, 0, 0, [], none),
  (16, .if_icmp .lt 9, 3, 0, 0, 0, [25], none),
  (19, .iload_n 1, 1, 0, 0, 0, [], none),
  (20, .bipush 99, 2, 0, 0, 0, [], none),
  (22, .if_icmp .le 9, 3, 0, 0, 0, [31], none),
  (25, .aload_n 0, 1, 0, 0, 0, [], none),
  (26, .iconst 2, 1, 0, 0, 0, [], none),
  (27, .invokevirtual 101, 3, 0, 0, 0, [], some mX8_refuse),
  (30, .ireturn, 1, 0, 0, 0, [], none),
  (31, .aload_n 0, 1, 0, 0, 0, [], none),
  (32, .getfield 23, 3, 8, 2, 0, [], none),
  (35, .iload_n 1, 1, 0, 0, 0, [], none),
  (36, .invokevirtual 357, 3, 0, 0, 0, [], some mX5_canMove),
  (39, .ifCond .ne 9, 3, 0, 0, 0, [48], none),
  (42, .aload_n 0, 1, 0, 0, 0, [], none),
  (43, .iconst 5, 1, 0, 0, 0, [], none),
  (44, .invokevirtual 101, 3, 0, 0, 0, [], some mX8_refuse),
  (47, .ireturn, 1, 0, 0, 0, [], none),
  (48, .aload_n 0, 1, 0, 0, 0, [], none),
  (49, .iconst 4, 1, 0, 0, 0, [], none),
  (50, .iconst 0, 1, 0, 0, 0, [], none),
  (51, .iload_n 1, 1, 0, 0, 0, [], none),
  (52, .ineg, 1, 0, 0, 0, [], none),
  (53, .iload_n 1, 1, 0, 0, 0, [], none),
  (54, .invokevirtual 353, 3, 0, 0, 0, [], some mX8_act),
  (57, .pop, 1, 0, 0, 0, [], none),
  (58, .aload_n 0, 1, 0, 0, 0, [], none),
  (59, .aload_n 0, 1, 0, 0, 0, [], none),
  (60, .invokevirtual 335, 3, 0, 0, 0, [], some mX8_wholeBreaks),
  (63, .invokevirtual 124, 3, 0, 0, 0, [], some mX8_grant),
  (66, .ireturn, 1, 0, 0, 0, [], none)]
set_option maxRecDepth 100000 in
theorem kX8_move : ab_def_ok mX8_move rX8_move := ⟨ab_mok_of 1100 99 1098 1099 (by decide +kernel), [0, 626, 0, 0, 0, 453, 0, 0, 0, 0, 0, 0, 0, 0, 0, 453, 0, 0, 391, 0, 1101, 0, 0, 0, 453, 0, 0, 0, 0, 0, 0, 0, 1064, 0, 0, 0, 1026, 610, 0], by decide +kernel⟩
set_option maxRecDepth 100000 in
set_option maxHeartbeats 100000000 in
theorem vX8_move_0 {x : ab_Cx} {d mc ms : Nat} {Post : Option ab_V → List ab_Ob → Prop} (hx : ab_At x mX8_move d mc ms Post) (a1 : Int) (w0 w1 w2 w3 w4 w5 w6 w7 w8 w9 w10 w11 w12 w13 w14 w15 : ab_Ob) (kc ks : Nat)
    (h : (∃ Q1 : Option ab_V → List ab_Ob → Prop, ab_Ct d 0 0 mX8_hasPiece [ab_O 0] [w0, w1, w2, w3, w4, w5, w6, w7, w8, w9, w10, w11, w12, w13, w14, w15] Q1 ∧ (∀ r2 : Int, Q1 (some (ab_I r2)) [w0, w1, w2, w3, w4, w5, w6, w7, w8, w9, w10, w11, w12, w13, w14, w15] → ((¬ r2 = 0 → ((a1 < (-99) → (∃ Q3 : Option ab_V → List ab_Ob → Prop, ab_Ct d 0 0 mX8_refuse [ab_O 0, ab_I 2] [w0, w1, w2, w3, w4, w5, w6, w7, w8, w9, w10, w11, w12, w13, w14, w15] Q3 ∧ (∀ r4 : Int, ∀ v5 : ab_Ob, Q3 (some (ab_I r4)) [v5, w1, w2, w3, w4, w5, w6, w7, w8, w9, w10, w11, w12, w13, w14, w15] → Post (some (ab_I r4)) [v5, w1, w2, w3, w4, w5, w6, w7, w8, w9, w10, w11, w12, w13, w14, w15]))) ∧ (¬ a1 < (-99) → ((a1 ≤ 99 → (∃ Q6 : Option ab_V → List ab_Ob → Prop, ab_Ct d 0 0 mX5_canMove [ab_O 0, ab_I a1] [w3] Q6 ∧ (∀ r7 : Int, Q6 (some (ab_I r7)) [w3] → ((¬ r7 = 0 → ((-2147483648 ≤ -a1 ∧ -a1 ≤ 2147483647) ∧ (∃ Q8 : Option ab_V → List ab_Ob → Prop, ab_Ct d 0 0 mX8_act [ab_O 0, ab_I 4, ab_I 0, ab_I (-a1), ab_I a1] [w0, w1, w2, w3, w4, w5, w6, w7, w8, w9, w10, w11, w12, w13, w14, w15] Q8 ∧ (∀ r9 : Int, ∀ v10 : ab_Ob, ∀ v11 : ab_Ob, ∀ v12 : ab_Ob, ∀ v13 : ab_Ob, Q8 (some (ab_I r9)) [v10, w1, w2, v11, v12, w5, w6, w7, v13, w9, w10, w11, w12, w13, w14, w15] → (∃ mc14 ms15 : Nat, (kc + mc14 ≤ mc ∧ ks + ms15 ≤ ms) ∧ ∃ Q16 : Option ab_V → List ab_Ob → Prop, ab_Ct d mc14 ms15 mX8_wholeBreaks [ab_O 0] [v10, w1, w2, v11, v12, w5, w6, w7, v13, w9, w10, w11, w12, w13, w14, w15] Q16 ∧ (∀ r17 : Int, ∀ v18 : ab_Ob, ∀ v19 : ab_Ob, Q16 (some (ab_I r17)) [v18, w1, w2, v11, v12, v19, w6, w7, v13, w9, w10, w11, w12, w13, w14, w15] → (∃ Q20 : Option ab_V → List ab_Ob → Prop, ab_Ct d 0 0 mX8_grant [ab_O 0, ab_I r17] [v18, w1, w2, v11, v12, v19, w6, w7, v13, w9, w10, w11, w12, w13, w14, w15] Q20 ∧ (∀ r21 : Int, ∀ v22 : ab_Ob, Q20 (some (ab_I r21)) [v22, w1, w2, v11, v12, v19, w6, w7, v13, w9, w10, w11, w12, w13, w14, w15] → Post (some (ab_I r21)) [v22, w1, w2, v11, v12, v19, w6, w7, v13, w9, w10, w11, w12, w13, w14, w15])))))))) ∧ (r7 = 0 → (∃ Q23 : Option ab_V → List ab_Ob → Prop, ab_Ct d 0 0 mX8_refuse [ab_O 0, ab_I 5] [w0, w1, w2, w3, w4, w5, w6, w7, w8, w9, w10, w11, w12, w13, w14, w15] Q23 ∧ (∀ r24 : Int, ∀ v25 : ab_Ob, Q23 (some (ab_I r24)) [v25, w1, w2, w3, w4, w5, w6, w7, w8, w9, w10, w11, w12, w13, w14, w15] → Post (some (ab_I r24)) [v25, w1, w2, w3, w4, w5, w6, w7, w8, w9, w10, w11, w12, w13, w14, w15]))))))) ∧ (¬ a1 ≤ 99 → (∃ Q26 : Option ab_V → List ab_Ob → Prop, ab_Ct d 0 0 mX8_refuse [ab_O 0, ab_I 2] [w0, w1, w2, w3, w4, w5, w6, w7, w8, w9, w10, w11, w12, w13, w14, w15] Q26 ∧ (∀ r27 : Int, ∀ v28 : ab_Ob, Q26 (some (ab_I r27)) [v28, w1, w2, w3, w4, w5, w6, w7, w8, w9, w10, w11, w12, w13, w14, w15] → Post (some (ab_I r27)) [v28, w1, w2, w3, w4, w5, w6, w7, w8, w9, w10, w11, w12, w13, w14, w15]))))))) ∧ (r2 = 0 → (∃ Q29 : Option ab_V → List ab_Ob → Prop, ab_Ct d 0 0 mX8_refuse [ab_O 0, ab_I 1] [w0, w1, w2, w3, w4, w5, w6, w7, w8, w9, w10, w11, w12, w13, w14, w15] Q29 ∧ (∀ r30 : Int, ∀ v31 : ab_Ob, Q29 (some (ab_I r30)) [v31, w1, w2, w3, w4, w5, w6, w7, w8, w9, w10, w11, w12, w13, w14, w15] → Post (some (ab_I r30)) [v31, w1, w2, w3, w4, w5, w6, w7, w8, w9, w10, w11, w12, w13, w14, w15]))))))) :
    ab_J x 0 [some (ab_O 0), some (ab_I a1)] [] [w0, w1, w2, w3, w4, w5, w6, w7, w8, w9, w10, w11, w12, w13, w14, w15] kc ks := ab_go hx kX8_move.2 31 [] 0 h
