def mX8_keptBreaks : ab_M := ((yX8_keptBreaks, cX8_keptBreaks, 1, (some .int)), ([8, 4, 5, 5, 0, 1, 2, 7, 6, 1, 7, 7, 7, 7, 3, 3], [(0, 0), (0, 1), (0, 2), (0, 3), (0, 4), (0, 5), (0, 6), (0, 7), (0, 8), (0, 9), (0, 10), (0, 11), (0, 12), (0, 13), (0, 14), (0, 15)], [true, false, false, false, false, false, false, false, false, false, false, false, false, false, false, false], false, false, 0), (false, 8, 0))
def rX8_keptBreaks : List ab_R := [(0, .aload_n 0, 1, 0, 0, 0, [], none),
  (1, .getfield 75, 3, 8, 12, 0, [], none),
  (4, .ifCond .eq 21, 3, 0, 0, 0, [25], none),
  (7, .aload_n 0, 1, 0, 0, 0, [], none),
  (8, .aload_n 0, 1, 0, 0, 0, [], none),
  (9, .getfield 72, 3, 8, 11, 0, [], none),
  (12, .aload_n 0, 1, 0, 0, 0, [], none),
  (13, .getfield 23, 3, 8, 2, 0, [], none),
  (16, .invokevirtual 349, 3, 0, 0, 0, [], some mX7_breaksOfAll),
  (19, .invokevirtual 124, 3, 0, 0, 0, [], some mX8_grant),
  (22, .goto 8, 3, 0, 0, 0, [30], none),
  (25, .aload_n 0, 1, 0, 0, 0, [], none),
  (26, .iconst 1, 1, 0, 0, 0, [], none),
  (27, .invokevirtual 101, 3, 0, 0, 0, [], some mX8_refuse),
  (30, .ireturn, 1, 0, 0, 0, [], none)]
set_option maxRecDepth 100000 in
theorem kX8_keptBreaks : ab_def_ok mX8_keptBreaks rX8_keptBreaks := ⟨ab_mok_of 1054 99 1052 1053 (by decide +kernel), [0, 401, 0, 0, 0, 400, 0, 391, 1055, 610, 0, 0, 0, 453, 0], by decide +kernel⟩
set_option maxRecDepth 100000 in
set_option maxHeartbeats 100000000 in
theorem vX8_keptBreaks_0 {x : ab_Cx} {d mc ms : Nat} {Post : Option ab_V → List ab_Ob → Prop} (hx : ab_At x mX8_keptBreaks d mc ms Post) (w0 w1 w2 w3 w4 w5 w6 w7 w8 w9 w10 w11 w12 w13 w14 w15 : ab_Ob) (kc ks : Nat)
    (h : (((w0.1 12) = 0 → (∃ Q1 : Option ab_V → List ab_Ob → Prop, ab_Ct d 0 0 mX8_refuse [ab_O 0, ab_I 1] [w0, w1, w2, w3, w4, w5, w6, w7, w8, w9, w10, w11, w12, w13, w14, w15] Q1 ∧ (∀ r2 : Int, ∀ v3 : ab_Ob, Q1 (some (ab_I r2)) [v3, w1, w2, w3, w4, w5, w6, w7, w8, w9, w10, w11, w12, w13, w14, w15] → Post (some (ab_I r2)) [v3, w1, w2, w3, w4, w5, w6, w7, w8, w9, w10, w11, w12, w13, w14, w15]))) ∧ (¬ (w0.1 12) = 0 → (∃ Q4 : Option ab_V → List ab_Ob → Prop, ab_Ct d 0 0 mX7_breaksOfAll [ab_O 0, ab_O 1] [w11, w3] Q4 ∧ (∀ r5 : Int, Q4 (some (ab_I r5)) [w11, w3] → (∃ Q6 : Option ab_V → List ab_Ob → Prop, ab_Ct d 0 0 mX8_grant [ab_O 0, ab_I r5] [w0, w1, w2, w3, w4, w5, w6, w7, w8, w9, w10, w11, w12, w13, w14, w15] Q6 ∧ (∀ r7 : Int, ∀ v8 : ab_Ob, Q6 (some (ab_I r7)) [v8, w1, w2, w3, w4, w5, w6, w7, w8, w9, w10, w11, w12, w13, w14, w15] → Post (some (ab_I r7)) [v8, w1, w2, w3, w4, w5, w6, w7, w8, w9, w10, w11, w12, w13, w14, w15]))))))) :
    ab_J x 0 [some (ab_O 0)] [] [w0, w1, w2, w3, w4, w5, w6, w7, w8, w9, w10, w11, w12, w13, w14, w15] kc ks := ab_go hx kX8_keptBreaks.2 16 [] 0 h
def mX8_change : ab_M := ((yX8_change, cX8_change, 4, none), ([8, 4, 5, 5, 0, 1, 2, 7, 6, 1, 7, 7, 7, 7, 3, 3], [(0, 0), (0, 1), (0, 2), (0, 3), (0, 4), (0, 5), (0, 6), (0, 7), (0, 8), (0, 9), (0, 10), (0, 11), (0, 12), (0, 13), (0, 14), (0, 15)], [true, false, false, true, false, false, false, false, true, false, false, false, false, false, false, false], false, false, 0), (false, 8, 3))
def rX8_change : List ab_R := [(0, .iload_n 1, 1, 0, 0, 0, [], none),
  (1, .tableswitch 81 0 3 #[31, 44, 57, 70], 31, 0, 0, 0, [82, 32, 45, 58, 71], none),
  (32, .aload_n 0, 1, 0, 0, 0, [], none),
  (33, .getfield 23, 3, 8, 2, 0, [], none),
  (36, .getfield 155, 3, 5, 4, 0, [], none),
  (39, .iload_n 2, 1, 0, 0, 0, [], none),
  (40, .iload_n 3, 1, 0, 0, 0, [], none),
  (41, .iastore, 1, 0, 0, 0, [], none),
  (42, .goto 48, 3, 0, 0, 0, [90], none),
  (45, .aload_n 0, 1, 0, 0, 0, [], none),
  (46, .getfield 23, 3, 8, 2, 0, [], none),
  (49, .getfield 159, 3, 5, 5, 0, [], none),
  (52, .iload_n 2, 1, 0, 0, 0, [], none),
  (53, .iload_n 3, 1, 0, 0, 0, [], none),
  (54, .iastore, 1, 0, 0, 0, [], none),
  (55, .goto 35, 3, 0, 0, 0, [90], none),
  (58, .aload_n 0, 1, 0, 0, 0, [], none),
  (59, .getfield 23, 3, 8, 2, 0, [], none),
  (62, .getfield 181, 3, 5, 6, 0, [], none),
  (65, .iload_n 2, 1, 0, 0, 0, [], none),
  (66, .iload_n 3, 1, 0, 0, 0, [], none),
  (67, .iastore, 1, 0, 0, 0, [], none),
  (68, .goto 22, 3, 0, 0, 0, [90], none),
  (71, .aload_n 0, 1, 0, 0, 0, [], none),
  (72, .getfield 23, 3, 8, 2, 0, [], none),
  (75, .iload_n 3, 1, 0, 0, 0, [], none),
  (76, .putfield 140, 3, 5, 2, 0, [], none),
  (79, .goto 11, 3, 0, 0, 0, [90], none),
  (82, .aload_n 0, 1, 0, 0, 0, [], none),
  (83, .getfield 23, 3, 8, 2, 0, [], none),
  (86, .iload_n 3, 1, 0, 0, 0, [], none),
  (87, .invokevirtual 389, 3, 0, 0, 0, [], some mX5_moveAll),
  (90, .aload_n 0, 1, 0, 0, 0, [], none),
  (91, .getfield 23, 3, 8, 2, 0, [], none),
  (94, .invokevirtual 392, 3, 0, 0, 0, [], some mX5_derive),
  (97, .aload_n 0, 1, 0, 0, 0, [], none),
  (98, .invokevirtual 118, 3, 0, 0, 0, [], some mX8_renew),
  (101, .return_, 1, 0, 0, 0, [], none)]
set_option maxRecDepth 100000 in
theorem kX8_change : ab_def_ok mX8_change rX8_change := ⟨ab_mok_of 1079 99 1078 42 (by decide +kernel), [0, 0, 0, 391, 154, 0, 0, 0, 0, 0, 391, 156, 0, 0, 0, 0, 0, 391, 160, 0, 0, 0, 0, 0, 391, 0, 145, 0, 0, 391, 0, 1080, 0, 391, 1084, 0, 602, 0], by decide +kernel⟩
set_option maxRecDepth 100000 in
set_option maxHeartbeats 100000000 in
theorem vX8_change_0 {x : ab_Cx} {d mc ms : Nat} {Post : Option ab_V → List ab_Ob → Prop} (hx : ab_At x mX8_change d mc ms Post) (a1 a2 a3 : Int) (w0 w1 w2 w3 w4 w5 w6 w7 w8 w9 w10 w11 w12 w13 w14 w15 : ab_Ob) (kc ks : Nat)
    (h : ((a1 < 0 ∨ 3 < a1 → (∃ Q21 : Option ab_V → List ab_Ob → Prop, ab_Ct d 0 0 mX5_moveAll [ab_O 0, ab_I a3] [w3] Q21 ∧ (∀ v22 : ab_Ob, Q21 none [v22] → (∃ Q23 : Option ab_V → List ab_Ob → Prop, ab_Ct d 0 0 mX5_derive [ab_O 0] [v22] Q23 ∧ (∀ v24 : ab_Ob, Q23 none [v24] → (∃ Q25 : Option ab_V → List ab_Ob → Prop, ab_Ct d 0 0 mX8_renew [ab_O 0] [w0, w1, w2, v24, w4, w5, w6, w7, w8, w9, w10, w11, w12, w13, w14, w15] Q25 ∧ (∀ v26 : ab_Ob, ∀ v27 : ab_Ob, Q25 none [v26, w1, w2, v24, w4, w5, w6, w7, v27, w9, w10, w11, w12, w13, w14, w15] → Post none [v26, w1, w2, v24, w4, w5, w6, w7, v27, w9, w10, w11, w12, w13, w14, w15]))))))) ∧ ((a1 = 0 → ((0 ≤ a2 ∧ a2 < (w3.2 4).1) ∧ (∃ Q16 : Option ab_V → List ab_Ob → Prop, ab_Ct d 0 0 mX5_derive [ab_O 0] [(ab_pa w3 4 a2 a3)] Q16 ∧ (∀ v17 : ab_Ob, Q16 none [v17] → (∃ Q18 : Option ab_V → List ab_Ob → Prop, ab_Ct d 0 0 mX8_renew [ab_O 0] [w0, w1, w2, v17, w4, w5, w6, w7, w8, w9, w10, w11, w12, w13, w14, w15] Q18 ∧ (∀ v19 : ab_Ob, ∀ v20 : ab_Ob, Q18 none [v19, w1, w2, v17, w4, w5, w6, w7, v20, w9, w10, w11, w12, w13, w14, w15] → Post none [v19, w1, w2, v17, w4, w5, w6, w7, v20, w9, w10, w11, w12, w13, w14, w15])))))) ∧ ((a1 = 1 → ((0 ≤ a2 ∧ a2 < (w3.2 5).1) ∧ (∃ Q11 : Option ab_V → List ab_Ob → Prop, ab_Ct d 0 0 mX5_derive [ab_O 0] [(ab_pa w3 5 a2 a3)] Q11 ∧ (∀ v12 : ab_Ob, Q11 none [v12] → (∃ Q13 : Option ab_V → List ab_Ob → Prop, ab_Ct d 0 0 mX8_renew [ab_O 0] [w0, w1, w2, v12, w4, w5, w6, w7, w8, w9, w10, w11, w12, w13, w14, w15] Q13 ∧ (∀ v14 : ab_Ob, ∀ v15 : ab_Ob, Q13 none [v14, w1, w2, v12, w4, w5, w6, w7, v15, w9, w10, w11, w12, w13, w14, w15] → Post none [v14, w1, w2, v12, w4, w5, w6, w7, v15, w9, w10, w11, w12, w13, w14, w15])))))) ∧ ((a1 = 2 → ((0 ≤ a2 ∧ a2 < (w3.2 6).1) ∧ (∃ Q6 : Option ab_V → List ab_Ob → Prop, ab_Ct d 0 0 mX5_derive [ab_O 0] [(ab_pa w3 6 a2 a3)] Q6 ∧ (∀ v7 : ab_Ob, Q6 none [v7] → (∃ Q8 : Option ab_V → List ab_Ob → Prop, ab_Ct d 0 0 mX8_renew [ab_O 0] [w0, w1, w2, v7, w4, w5, w6, w7, w8, w9, w10, w11, w12, w13, w14, w15] Q8 ∧ (∀ v9 : ab_Ob, ∀ v10 : ab_Ob, Q8 none [v9, w1, w2, v7, w4, w5, w6, w7, v10, w9, w10, w11, w12, w13, w14, w15] → Post none [v9, w1, w2, v7, w4, w5, w6, w7, v10, w9, w10, w11, w12, w13, w14, w15])))))) ∧ ((a1 = 3 → (∃ Q1 : Option ab_V → List ab_Ob → Prop, ab_Ct d 0 0 mX5_derive [ab_O 0] [(ab_pf w3 2 a3)] Q1 ∧ (∀ v2 : ab_Ob, Q1 none [v2] → (∃ Q3 : Option ab_V → List ab_Ob → Prop, ab_Ct d 0 0 mX8_renew [ab_O 0] [w0, w1, w2, v2, w4, w5, w6, w7, w8, w9, w10, w11, w12, w13, w14, w15] Q3 ∧ (∀ v4 : ab_Ob, ∀ v5 : ab_Ob, Q3 none [v4, w1, w2, v2, w4, w5, w6, w7, v5, w9, w10, w11, w12, w13, w14, w15] → Post none [v4, w1, w2, v2, w4, w5, w6, w7, v5, w9, w10, w11, w12, w13, w14, w15]))))) ∧ True)))))) :
    ab_J x 0 [some (ab_O 0), some (ab_I a1), some (ab_I a2), some (ab_I a3)] [] [w0, w1, w2, w3, w4, w5, w6, w7, w8, w9, w10, w11, w12, w13, w14, w15] kc ks := ab_go hx kX8_change.2 19 [] 0 h
def mX8_act : ab_M := ((yX8_act, cX8_act, 5, (some .int)), ([8, 4, 5, 5, 0, 1, 2, 7, 6, 1, 7, 7, 7, 7, 3, 3], [(0, 0), (0, 1), (0, 2), (0, 3), (0, 4), (0, 5), (0, 6), (0, 7), (0, 8), (0, 9), (0, 10), (0, 11), (0, 12), (0, 13), (0, 14), (0, 15)], [true, false, false, true, true, false, false, false, true, false, false, false, false, false, false, false], false, false, 0), (false, 8, 4))
def rX8_act : List ab_R := [(0, .aload_n 0, 1, 0, 0, 0, [], none),
  (1, .getfield 30, 3, 8, 3, 0, [], none),
  (4, .iload_n 1, 1, 0, 0, 0, [], none),
  (5, .iload_n 2, 1, 0, 0, 0, [], none),
  (6, .iload_n 3, 1, 0, 0, 0, [], none),
  (7, .invokevirtual 386, 3, 0, 0, 0, [], some mX0_add),
  (10, .aload_n 0, 1, 0, 0, 0, [], none),
  (11, .iload_n 1, 1, 0, 0, 0, [], none),
  (12, .iload_n 2, 1, 0, 0, 0, [], none),
  (13, .iload 4, 2, 0, 0, 0, [], none),
  (15, .invokevirtual 369, 3, 0, 0, 0, [], some mX8_change),
  (18, .aload_n 0, 1, 0, 0, 0, [], none),
  (19, .iload_n 3, 1, 0, 0, 0, [], none),
  (20, .invokevirtual 124, 3, 0, 0, 0, [], some mX8_grant),
  (23, .ireturn, 1, 0, 0, 0, [], none)]
set_option maxRecDepth 100000 in
theorem kX8_act : ab_def_ok mX8_act rX8_act := ⟨ab_mok_of 1067 99 1066 40 (by decide +kernel), [0, 392, 0, 0, 0, 1068, 0, 0, 0, 0, 1076, 0, 0, 610, 0], by decide +kernel⟩
set_option maxRecDepth 100000 in
set_option maxHeartbeats 100000000 in
theorem vX8_act_0 {x : ab_Cx} {d mc ms : Nat} {Post : Option ab_V → List ab_Ob → Prop} (hx : ab_At x mX8_act d mc ms Post) (a1 a2 a3 a4 : Int) (w0 w1 w2 w3 w4 w5 w6 w7 w8 w9 w10 w11 w12 w13 w14 w15 : ab_Ob) (kc ks : Nat)
    (h : (∃ Q1 : Option ab_V → List ab_Ob → Prop, ab_Ct d 0 0 mX0_add [ab_O 0, ab_I a1, ab_I a2, ab_I a3] [w4] Q1 ∧ (∀ v2 : ab_Ob, Q1 none [v2] → (∃ Q3 : Option ab_V → List ab_Ob → Prop, ab_Ct d 0 0 mX8_change [ab_O 0, ab_I a1, ab_I a2, ab_I a4] [w0, w1, w2, w3, v2, w5, w6, w7, w8, w9, w10, w11, w12, w13, w14, w15] Q3 ∧ (∀ v4 : ab_Ob, ∀ v5 : ab_Ob, ∀ v6 : ab_Ob, Q3 none [v4, w1, w2, v5, v2, w5, w6, w7, v6, w9, w10, w11, w12, w13, w14, w15] → (∃ Q7 : Option ab_V → List ab_Ob → Prop, ab_Ct d 0 0 mX8_grant [ab_O 0, ab_I a3] [v4, w1, w2, v5, v2, w5, w6, w7, v6, w9, w10, w11, w12, w13, w14, w15] Q7 ∧ (∀ r8 : Int, ∀ v9 : ab_Ob, Q7 (some (ab_I r8)) [v9, w1, w2, v5, v2, w5, w6, w7, v6, w9, w10, w11, w12, w13, w14, w15] → Post (some (ab_I r8)) [v9, w1, w2, v5, v2, w5, w6, w7, v6, w9, w10, w11, w12, w13, w14, w15]))))))) :
    ab_J x 0 [some (ab_O 0), some (ab_I a1), some (ab_I a2), some (ab_I a3), some (ab_I a4)] [] [w0, w1, w2, w3, w4, w5, w6, w7, w8, w9, w10, w11, w12, w13, w14, w15] kc ks := ab_go hx kX8_act.2 19 [] 0 h
def mX8_pitch : ab_M := ((yX8_pitch, cX8_pitch, 3, (some .int)), ([8, 4, 5, 5, 0, 1, 2, 7, 6, 1, 7, 7, 7, 7, 3, 3], [(0, 0), (0, 1), (0, 2), (0, 3), (0, 4), (0, 5), (0, 6), (0, 7), (0, 8), (0, 9), (0, 10), (0, 11), (0, 12), (0, 13), (0, 14), (0, 15)], [true, false, false, true, true, false, false, false, true, false, false, false, false, false, false, false], false, false, 0), (false, 8, 2))
def rX8_pitch : List ab_R := [(0, .aload_n 0, 1, 0, 0, 0, [], none),
  (1, .iload_n 1, 1, 0, 0, 0, [], none),
  (2, .invokevirtual 151, 3, 0, 0, 0, [], some mX8_hasNote),
  (5, .ifCond .ne 9, 3, 0, 0, 0, [14], none),
  (8, .aload_n 0, 1, 0, 0, 0, [], none),
  (9, .iconst 1, 1, 0, 0, 0, [], none),
  (10, .invokevirtual 101, 3, 0, 0, 0, [], some mX8_refuse),
  (13, .ireturn, 1, 0, 0, 0, [], none),
  (14, .iload_n 2, 1, 0, 0, 0, [], none),
  (15, .ifCond .lt 9, 3, 0, 0, 0, [24], none),
  (18, .iload_n 2, 1, 0, 0, 0, [], none),
  (19, .bipush 99, 2, 0, 0, 0, [], none),
  (21, .if_icmp .le 9, 3, 0, 0, 0, [30], none),
  (24, .aload_n 0, 1, 0, 0, 0, [], none),
  (25, .iconst 2, 1, 0, 0, 0, [], none),
  (26, .invokevirtual 101, 3, 0, 0, 0, [], some mX8_refuse),
  (29, .ireturn, 1, 0, 0, 0, [], none),
  (30, .aload_n 0, 1, 0, 0, 0, [], none),
  (31, .iconst 0, 1, 0, 0, 0, [], none),
  (32, .iload_n 1, 1, 0, 0, 0, [], none),
  (33, .aload_n 0, 1, 0, 0, 0, [], none),
  (34, .getfield 23, 3, 8, 2, 0, [], none),
  (37, .getfield 155, 3, 5, 4, 0, [], none),
  (40, .iload_n 1, 1, 0, 0, 0, [], none),
  (41, .iaload, 1, 0, 0, 0, [], none),
  (42, .iload_n 2, 1, 0, 0, 0, [], none),
  (43, .invokevirtual 353, 3, 0, 0, 0, [], some mX8_act),
  (46, .ireturn, 1, 0, 0, 0, [], none)]
set_option maxRecDepth 100000 in
theorem kX8_pitch : ab_def_ok mX8_pitch rX8_pitch := ⟨ab_mok_of 1063 99 1061 1062 (by decide +kernel), [0, 0, 642, 0, 0, 0, 453, 0, 0, 0, 0, 0, 0, 0, 0, 453, 0, 0, 0, 0, 0, 391, 154, 0, 0, 0, 1064, 0], by decide +kernel⟩
set_option maxRecDepth 100000 in
set_option maxHeartbeats 100000000 in
theorem vX8_pitch_0 {x : ab_Cx} {d mc ms : Nat} {Post : Option ab_V → List ab_Ob → Prop} (hx : ab_At x mX8_pitch d mc ms Post) (a1 a2 : Int) (w0 w1 w2 w3 w4 w5 w6 w7 w8 w9 w10 w11 w12 w13 w14 w15 : ab_Ob) (kc ks : Nat)
    (h : (∃ Q1 : Option ab_V → List ab_Ob → Prop, ab_Ct d 0 0 mX8_hasNote [ab_O 0, ab_I a1] [w0, w1, w2, w3, w4, w5, w6, w7, w8, w9, w10, w11, w12, w13, w14, w15] Q1 ∧ (∀ r2 : Int, Q1 (some (ab_I r2)) [w0, w1, w2, w3, w4, w5, w6, w7, w8, w9, w10, w11, w12, w13, w14, w15] → ((¬ r2 = 0 → ((a2 < 0 → (∃ Q3 : Option ab_V → List ab_Ob → Prop, ab_Ct d 0 0 mX8_refuse [ab_O 0, ab_I 2] [w0, w1, w2, w3, w4, w5, w6, w7, w8, w9, w10, w11, w12, w13, w14, w15] Q3 ∧ (∀ r4 : Int, ∀ v5 : ab_Ob, Q3 (some (ab_I r4)) [v5, w1, w2, w3, w4, w5, w6, w7, w8, w9, w10, w11, w12, w13, w14, w15] → Post (some (ab_I r4)) [v5, w1, w2, w3, w4, w5, w6, w7, w8, w9, w10, w11, w12, w13, w14, w15]))) ∧ (¬ a2 < 0 → ((a2 ≤ 99 → ((0 ≤ a1 ∧ a1 < (w3.2 4).1) ∧ (∃ Q6 : Option ab_V → List ab_Ob → Prop, ab_Ct d 0 0 mX8_act [ab_O 0, ab_I 0, ab_I a1, ab_I ((w3.2 4).2 a1), ab_I a2] [w0, w1, w2, w3, w4, w5, w6, w7, w8, w9, w10, w11, w12, w13, w14, w15] Q6 ∧ (∀ r7 : Int, ∀ v8 : ab_Ob, ∀ v9 : ab_Ob, ∀ v10 : ab_Ob, ∀ v11 : ab_Ob, Q6 (some (ab_I r7)) [v8, w1, w2, v9, v10, w5, w6, w7, v11, w9, w10, w11, w12, w13, w14, w15] → Post (some (ab_I r7)) [v8, w1, w2, v9, v10, w5, w6, w7, v11, w9, w10, w11, w12, w13, w14, w15])))) ∧ (¬ a2 ≤ 99 → (∃ Q12 : Option ab_V → List ab_Ob → Prop, ab_Ct d 0 0 mX8_refuse [ab_O 0, ab_I 2] [w0, w1, w2, w3, w4, w5, w6, w7, w8, w9, w10, w11, w12, w13, w14, w15] Q12 ∧ (∀ r13 : Int, ∀ v14 : ab_Ob, Q12 (some (ab_I r13)) [v14, w1, w2, w3, w4, w5, w6, w7, w8, w9, w10, w11, w12, w13, w14, w15] → Post (some (ab_I r13)) [v14, w1, w2, w3, w4, w5, w6, w7, w8, w9, w10, w11, w12, w13, w14, w15]))))))) ∧ (r2 = 0 → (∃ Q15 : Option ab_V → List ab_Ob → Prop, ab_Ct d 0 0 mX8_refuse [ab_O 0, ab_I 1] [w0, w1, w2, w3, w4, w5, w6, w7, w8, w9, w10, w11, w12, w13, w14, w15] Q15 ∧ (∀ r16 : Int, ∀ v17 : ab_Ob, Q15 (some (ab_I r16)) [v17, w1, w2, w3, w4, w5, w6, w7, w8, w9, w10, w11, w12, w13, w14, w15] → Post (some (ab_I r16)) [v17, w1, w2, w3, w4, w5, w6, w7, w8, w9, w10, w11, w12, w13, w14, w15]))))))) :
    ab_J x 0 [some (ab_O 0), some (ab_I a1), some (ab_I a2)] [] [w0, w1, w2, w3, w4, w5, w6, w7, w8, w9, w10, w11, w12, w13, w14, w15] kc ks := ab_go hx kX8_pitch.2 24 [] 0 h
