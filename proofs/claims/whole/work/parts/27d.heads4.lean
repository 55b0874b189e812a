def mX8_act : ab_M := ((yX8_act, cX8_act, 5, (some .int)), ([8, 4, 5, 5, 0, 1, 2, 7, 6, 1, 7, 7, 7, 7, 3, 3], [(0, 0), (0, 1), (0, 2), (0, 3), (0, 4), (0, 5), (0, 6), (0, 7), (0, 8), (0, 9), (0, 10), (0, 11), (0, 12), (0, 13), (0, 14), (0, 15)], [true, false, false, true, true, false, false, false, true, false, false, false, false, false, false, false], false, false, 0), (false, 8, 4))
def rX8_act : List ab_R := [(0, .aload_n 0, 1, 0, 0, 0, [], none),
  (1, .getfield 30, 3, 8, 3, 0, [], none),
  (4, .iload_n 1, 1, 0, 0, 0, [], none),
  (5, .iload_n 2, 1, 0, 0, 0, [], none),
  (6, .iload_n 3, 1, 0, 0, 0, [], none),
  (7, .invokevirtual 386, 3, 0, 0, 0, [], some mX0_add),
  (10, .aload_n 0, 1, 0, 0, 0, [], none),
  (11, .iload_n 1, 1, 0, 0, 0, [], none),
  (12, .iload_n 2, 1, 0, 0, 0, [], none),
  (13, .iload 4, 2, 0, 0, 0, [], none),
  (15, .invokevirtual 369, 3, 0, 0, 0, [], some mX8_change),
  (18, .aload_n 0, 1, 0, 0, 0, [], none),
  (19, .iload_n 3, 1, 0, 0, 0, [], none),
  (20, .invokevirtual 124, 3, 0, 0, 0, [], some mX8_grant),
  (23, .ireturn, 1, 0, 0, 0, [], none)]
set_option maxRecDepth 100000 in
theorem kX8_act : ab_def_ok mX8_act rX8_act := ⟨ab_mok_of 1077 101 1076 42 (by decide +kernel), [0, 394, 0, 0, 0, 1078, 0, 0, 0, 0, 1086, 0, 0, 620, 0], by decide +kernel⟩
set_option maxRecDepth 100000 in
theorem vX8_act_0 {x : ab_Cx} {d mc ms : Nat} {Post : Option ab_V → List ab_Ob → Prop} (hx : ab_At x mX8_act d mc ms Post) (a1 a2 a3 a4 : Int) (w0 w1 w2 w3 w4 w5 w6 w7 w8 w9 w10 w11 w12 w13 w14 w15 : ab_Ob) (kc ks : Nat)
    (h : (∃ Q1 : Option ab_V → List ab_Ob → Prop, ab_Ct d 0 0 mX0_add [ab_O 0, ab_I a1, ab_I a2, ab_I a3] [w4] Q1 ∧ (∀ v2 : ab_Ob, Q1 none [v2] → (∃ Q3 : Option ab_V → List ab_Ob → Prop, ab_Ct d 0 0 mX8_change [ab_O 0, ab_I a1, ab_I a2, ab_I a4] [w0, w1, w2, w3, v2, w5, w6, w7, w8, w9, w10, w11, w12, w13, w14, w15] Q3 ∧ (∀ v4 : ab_Ob, ∀ v5 : ab_Ob, ∀ v6 : ab_Ob, Q3 none [v4, w1, w2, v5, v2, w5, w6, w7, v6, w9, w10, w11, w12, w13, w14, w15] → (∃ Q7 : Option ab_V → List ab_Ob → Prop, ab_Ct d 0 0 mX8_grant [ab_O 0, ab_I a3] [v4, w1, w2, v5, v2, w5, w6, w7, v6, w9, w10, w11, w12, w13, w14, w15] Q7 ∧ (∀ r8 : Int, ∀ v9 : ab_Ob, Q7 (some (ab_I r8)) [v9, w1, w2, v5, v2, w5, w6, w7, v6, w9, w10, w11, w12, w13, w14, w15] → Post (some (ab_I r8)) [v9, w1, w2, v5, v2, w5, w6, w7, v6, w9, w10, w11, w12, w13, w14, w15]))))))) :
    ab_J x 0 [some (ab_O 0), some (ab_I a1), some (ab_I a2), some (ab_I a3), some (ab_I a4)] [] [w0, w1, w2, w3, w4, w5, w6, w7, w8, w9, w10, w11, w12, w13, w14, w15] kc ks := ab_go hx kX8_act.2 19 [] 0 h
def mX8_pitch : ab_M := ((yX8_pitch, cX8_pitch, 3, (some .int)), ([8, 4, 5, 5, 0, 1, 2, 7, 6, 1, 7, 7, 7, 7, 3, 3], [(0, 0), (0, 1), (0, 2), (0, 3), (0, 4), (0, 5), (0, 6), (0, 7), (0, 8), (0, 9), (0, 10), (0, 11), (0, 12), (0, 13), (0, 14), (0, 15)], [true, false, false, true, true, false, false, false, true, false, false, false, false, false, false, false], false, false, 0), (false, 8, 2))
def rX8_pitch : List ab_R := [(0, .aload_n 0, 1, 0, 0, 0, [], none),
  (1, .iload_n 1, 1, 0, 0, 0, [], none),
  (2, .invokevirtual 151, 3, 0, 0, 0, [], some mX8_hasNote),
  (5, .ifCond .ne 9, 3, 0, 0, 0, [14], none),
  (8, .aload_n 0, 1, 0, 0, 0, [], none),
  (9, .iconst 1, 1, 0, 0, 0, [], none),
  (10, .invokevirtual 101, 3, 0, 0, 0, [], some mX8_refuse),
  (13, .ireturn, 1, 0, 0, 0, [], none),
  (14, .iload_n 2, 1, 0, 0, 0, [], none),
  (15, .ifCond .lt 9, 3, 0, 0, 0, [24], none),
  (18, .iload_n 2, 1, 0, 0, 0, [], none),
  (19, .bipush 99, 2, 0, 0, 0, [], none),
  (21, .if_icmp .le 9, 3, 0, 0, 0, [30], none),
  (24, .aload_n 0, 1, 0, 0, 0, [], none),
  (25, .iconst 2, 1, 0, 0, 0, [], none),
  (26, .invokevirtual 101, 3, 0, 0, 0, [], some mX8_refuse),
  (29, .ireturn, 1, 0, 0, 0, [], none),
  (30, .aload_n 0, 1, 0, 0, 0, [], none),
  (31, .iconst 0, 1, 0, 0, 0, [], none),
  (32, .iload_n 1, 1, 0, 0, 0, [], none),
  (33, .aload_n 0, 1, 0, 0, 0, [], none),
  (34, .getfield 23, 3, 8, 2, 0, [], none),
  (37, .getfield 155, 3, 5, 4, 0, [], none),
  (40, .iload_n 1, 1, 0, 0, 0, [], none),
  (41, .iaload, 1, 0, 0, 0, [], none),
  (42, .iload_n 2, 1, 0, 0, 0, [], none),
  (43, .invokevirtual 353, 3, 0, 0, 0, [], some mX8_act),
  (46, .ireturn, 1, 0, 0, 0, [], none)]
set_option maxRecDepth 100000 in
theorem kX8_pitch : ab_def_ok mX8_pitch rX8_pitch := ⟨ab_mok_of 1073 101 1071 1072 (by decide +kernel), [0, 0, 652, 0, 0, 0, 455, 0, 0, 0, 0, 0, 0, 0, 0, 455, 0, 0, 0, 0, 0, 393, 156, 0, 0, 0, 1074, 0], by decide +kernel⟩
set_option maxRecDepth 100000 in
theorem vX8_pitch_0 {x : ab_Cx} {d mc ms : Nat} {Post : Option ab_V → List ab_Ob → Prop} (hx : ab_At x mX8_pitch d mc ms Post) (a1 a2 : Int) (w0 w1 w2 w3 w4 w5 w6 w7 w8 w9 w10 w11 w12 w13 w14 w15 : ab_Ob) (kc ks : Nat)
    (h : (∃ Q1 : Option ab_V → List ab_Ob → Prop, ab_Ct d 0 0 mX8_hasNote [ab_O 0, ab_I a1] [w0, w1, w2, w3, w4, w5, w6, w7, w8, w9, w10, w11, w12, w13, w14, w15] Q1 ∧ (∀ r2 : Int, Q1 (some (ab_I r2)) [w0, w1, w2, w3, w4, w5, w6, w7, w8, w9, w10, w11, w12, w13, w14, w15] → ((¬ r2 = 0 → ((a2 < 0 → (∃ Q3 : Option ab_V → List ab_Ob → Prop, ab_Ct d 0 0 mX8_refuse [ab_O 0, ab_I 2] [w0, w1, w2, w3, w4, w5, w6, w7, w8, w9, w10, w11, w12, w13, w14, w15] Q3 ∧ (∀ r4 : Int, ∀ v5 : ab_Ob, Q3 (some (ab_I r4)) [v5, w1, w2, w3, w4, w5, w6, w7, w8, w9, w10, w11, w12, w13, w14, w15] → Post (some (ab_I r4)) [v5, w1, w2, w3, w4, w5, w6, w7, w8, w9, w10, w11, w12, w13, w14, w15]))) ∧ (¬ a2 < 0 → ((a2 ≤ 99 → ((0 ≤ a1 ∧ a1 < (w3.2 4).1) ∧ (∃ Q6 : Option ab_V → List ab_Ob → Prop, ab_Ct d 0 0 mX8_act [ab_O 0, ab_I 0, ab_I a1, ab_I ((w3.2 4).2 a1), ab_I a2] [w0, w1, w2, w3, w4, w5, w6, w7, w8, w9, w10, w11, w12, w13, w14, w15] Q6 ∧ (∀ r7 : Int, ∀ v8 : ab_Ob, ∀ v9 : ab_Ob, ∀ v10 : ab_Ob, ∀ v11 : ab_Ob, Q6 (some (ab_I r7)) [v8, w1, w2, v9, v10, w5, w6, w7, v11, w9, w10, w11, w12, w13, w14, w15] → Post (some (ab_I r7)) [v8, w1, w2, v9, v10, w5, w6, w7, v11, w9, w10, w11, w12, w13, w14, w15])))) ∧ (¬ a2 ≤ 99 → (∃ Q12 : Option ab_V → List ab_Ob → Prop, ab_Ct d 0 0 mX8_refuse [ab_O 0, ab_I 2] [w0, w1, w2, w3, w4, w5, w6, w7, w8, w9, w10, w11, w12, w13, w14, w15] Q12 ∧ (∀ r13 : Int, ∀ v14 : ab_Ob, Q12 (some (ab_I r13)) [v14, w1, w2, w3, w4, w5, w6, w7, w8, w9, w10, w11, w12, w13, w14, w15] → Post (some (ab_I r13)) [v14, w1, w2, w3, w4, w5, w6, w7, w8, w9, w10, w11, w12, w13, w14, w15]))))))) ∧ (r2 = 0 → (∃ Q15 : Option ab_V → List ab_Ob → Prop, ab_Ct d 0 0 mX8_refuse [ab_O 0, ab_I 1] [w0, w1, w2, w3, w4, w5, w6, w7, w8, w9, w10, w11, w12, w13, w14, w15] Q15 ∧ (∀ r16 : Int, ∀ v17 : ab_Ob, Q15 (some (ab_I r16)) [v17, w1, w2, w3, w4, w5, w6, w7, w8, w9, w10, w11, w12, w13, w14, w15] → Post (some (ab_I r16)) [v17, w1, w2, w3, w4, w5, w6, w7, w8, w9, w10, w11, w12, w13, w14, w15]))))))) :
    ab_J x 0 [some (ab_O 0), some (ab_I a1), some (ab_I a2)] [] [w0, w1, w2, w3, w4, w5, w6, w7, w8, w9, w10, w11, w12, w13, w14, w15] kc ks := ab_go hx kX8_pitch.2 24 [] 0 h
def mX8_last : ab_M := ((yX8_last, cX8_last, 3, (some .int)), ([8, 4, 5, 5, 0, 1, 2, 7, 6, 1, 7, 7, 7, 7, 3, 3], [(0, 0), (0, 1), (0, 2), (0, 3), (0, 4), (0, 5), (0, 6), (0, 7), (0, 8), (0, 9), (0, 10), (0, 11), (0, 12), (0, 13), (0, 14), (0, 15)], [true, false, false, true, true, false, false, false, true, false, false, false, false, false, false, false], false, false, 0), (false, 8, 2))
def rX8_last : List ab_R := [(0, .aload_n 0, 1, 0, 0, 0, [], none),
  (1, .iload_n 1, 1, 0, 0, 0, [], none),
  (2, .invokevirtual 151, 3, 0, 0, 0, [], some mX8_hasNote),
  (5, .ifCond .ne 9, 3, 0, 0, 0, [14], none),
  (8, .aload_n 0, 1, 0, 0, 0, [], none),
  (9, .iconst 1, 1, 0, 0, 0, [], none),
  (10, .invokevirtual 101, 3, 0, 0, 0, [], some mX8_refuse),
  (13, .ireturn, 1, 0, 0, 0, [], none),
  (14, .iload_n 2, 1, 0, 0, 0, [], none),
  (15, .iconst 1, 1, 0, 0, 0, [], none),
  (16, .if_icmp .lt 9, 3, 0, 0, 0, [25], none),
  (19, .iload_n 2, 1, 0, 0, 0, [], none),
  (20, .bipush 64, 2, 0, 0, 0, [], none),
  (22, .if_icmp .le 9, 3, 0, 0, 0, [31], none),
  (25, .aload_n 0, 1, 0, 0, 0, [], none),
  (26, .iconst 2, 1, 0, 0, 0, [], none),
  (27, .invokevirtual 101, 3, 0, 0, 0, [], some mX8_refuse),
  (30, .ireturn, 1, 0, 0, 0, [], none),
  (31, .aload_n 0, 1, 0, 0, 0, [], none),
  (32, .iconst 1, 1, 0, 0, 0, [], none),
  (33, .iload_n 1, 1, 0, 0, 0, [], none),
  (34, .aload_n 0, 1, 0, 0, 0, [], none),
  (35, .getfield 23, 3, 8, 2, 0, [], none),
  (38, .getfield 159, 3, 5, 5, 0, [], none),
  (41, .iload_n 1, 1, 0, 0, 0, [], none),
  (42, .iaload, 1, 0, 0, 0, [], none),
  (43, .iload_n 2, 1, 0, 0, 0, [], none),
  (44, .invokevirtual 353, 3, 0, 0, 0, [], some mX8_act),
  (47, .ireturn, 1, 0, 0, 0, [], none)]
set_option maxRecDepth 100000 in
theorem kX8_last : ab_def_ok mX8_last rX8_last := ⟨ab_mok_of 1098 101 1096 1097 (by decide +kernel), [0, 0, 652, 0, 0, 0, 455, 0, 0, 0, 0, 0, 0, 0, 0, 0, 455, 0, 0, 0, 0, 0, 393, 158, 0, 0, 0, 1074, 0], by decide +kernel⟩
set_option maxRecDepth 100000 in
theorem vX8_last_0 {x : ab_Cx} {d mc ms : Nat} {Post : Option ab_V → List ab_Ob → Prop} (hx : ab_At x mX8_last d mc ms Post) (a1 a2 : Int) (w0 w1 w2 w3 w4 w5 w6 w7 w8 w9 w10 w11 w12 w13 w14 w15 : ab_Ob) (kc ks : Nat)
    (h : (∃ Q1 : Option ab_V → List ab_Ob → Prop, ab_Ct d 0 0 mX8_hasNote [ab_O 0, ab_I a1] [w0, w1, w2, w3, w4, w5, w6, w7, w8, w9, w10, w11, w12, w13, w14, w15] Q1 ∧ (∀ r2 : Int, Q1 (some (ab_I r2)) [w0, w1, w2, w3, w4, w5, w6, w7, w8, w9, w10, w11, w12, w13, w14, w15] → ((¬ r2 = 0 → ((a2 < 1 → (∃ Q3 : Option ab_V → List ab_Ob → Prop, ab_Ct d 0 0 mX8_refuse [ab_O 0, ab_I 2] [w0, w1, w2, w3, w4, w5, w6, w7, w8, w9, w10, w11, w12, w13, w14, w15] Q3 ∧ (∀ r4 : Int, ∀ v5 : ab_Ob, Q3 (some (ab_I r4)) [v5, w1, w2, w3, w4, w5, w6, w7, w8, w9, w10, w11, w12, w13, w14, w15] → Post (some (ab_I r4)) [v5, w1, w2, w3, w4, w5, w6, w7, w8, w9, w10, w11, w12, w13, w14, w15]))) ∧ (¬ a2 < 1 → ((a2 ≤ 64 → ((0 ≤ a1 ∧ a1 < (w3.2 5).1) ∧ (∃ Q6 : Option ab_V → List ab_Ob → Prop, ab_Ct d 0 0 mX8_act [ab_O 0, ab_I 1, ab_I a1, ab_I ((w3.2 5).2 a1), ab_I a2] [w0, w1, w2, w3, w4, w5, w6, w7, w8, w9, w10, w11, w12, w13, w14, w15] Q6 ∧ (∀ r7 : Int, ∀ v8 : ab_Ob, ∀ v9 : ab_Ob, ∀ v10 : ab_Ob, ∀ v11 : ab_Ob, Q6 (some (ab_I r7)) [v8, w1, w2, v9, v10, w5, w6, w7, v11, w9, w10, w11, w12, w13, w14, w15] → Post (some (ab_I r7)) [v8, w1, w2, v9, v10, w5, w6, w7, v11, w9, w10, w11, w12, w13, w14, w15])))) ∧ (¬ a2 ≤ 64 → (∃ Q12 : Option ab_V → List ab_Ob → Prop, ab_Ct d 0 0 mX8_refuse [ab_O 0, ab_I 2] [w0, w1, w2, w3, w4, w5, w6, w7, w8, w9, w10, w11, w12, w13, w14, w15] Q12 ∧ (∀ r13 : Int, ∀ v14 : ab_Ob, Q12 (some (ab_I r13)) [v14, w1, w2, w3, w4, w5, w6, w7, w8, w9, w10, w11, w12, w13, w14, w15] → Post (some (ab_I r13)) [v14, w1, w2, w3, w4, w5, w6, w7, w8, w9, w10, w11, w12, w13, w14, w15]))))))) ∧ (r2 = 0 → (∃ Q15 : Option ab_V → List ab_Ob → Prop, ab_Ct d 0 0 mX8_refuse [ab_O 0, ab_I 1] [w0, w1, w2, w3, w4, w5, w6, w7, w8, w9, w10, w11, w12, w13, w14, w15] Q15 ∧ (∀ r16 : Int, ∀ v17 : ab_Ob, Q15 (some (ab_I r16)) [v17, w1, w2, w3, w4, w5, w6, w7, w8, w9, w10, w11, w12, w13, w14, w15] → Post (some (ab_I r16)) [v17, w1, w2, w3, w4, w5, w6, w7, w8, w9, w10, w11, w12, w13, w14, w15]))))))) :
    ab_J x 0 [some (ab_O 0), some (ab_I a1), some (ab_I a2)] [] [w0, w1, w2, w3, w4, w5, w6, w7, w8, w9, w10, w11, w12, w13, w14, w15] kc ks := ab_go hx kX8_last.2 25 [] 0 h
def mX8_weigh : ab_M := ((yX8_weigh, cX8_weigh, 3, (some .int)), ([8, 4, 5, 5, 0, 1, 2, 7, 6, 1, 7, 7, 7, 7, 3, 3], [(0, 0), (0, 1), (0, 2), (0, 3), (0, 4), (0, 5), (0, 6), (0, 7), (0, 8), (0, 9), (0, 10), (0, 11), (0, 12), (0, 13), (0, 14), (0, 15)], [true, false, false, true, true, false, false, false, true, false, false, false, false, false, false, false], false, false, 0), (false, 8, 2))
def rX8_weigh : List ab_R := [(0, .aload_n 0, 1, 0, 0, 0, [], none),
  (1, .iload_n 1, 1, 0, 0, 0, [], none),
  (2, .invokevirtual 178, 3, 0, 0, 0, [], some mX8_hasRule),
  (5, .ifCond .ne 9, 3, 0, 0, 0, [14], none),
  (8, .aload_n 0, 1, 0, 0, 0, [], none),
  (9, .iconst 1, 1, 0, 0, 0, [], none),
  (10, .invokevirtual 101, 3, 0, 0, 0, [], some mX8_refuse),
  (13, .ireturn, 1, 0, 0, 0, [], none),
  (14, .iload_n 2, 1, 0, 0, 0, [], none),
  (15, .ifCond .lt 9, 3, 0, 0, 0, [24], none),
  (18, .iload_n 2, 1, 0, 0, 0, [], none),
  (19, .bipush 99, 2, 0, 0, 0, [], none),
  (21, .if_icmp .le 9, 3, 0, 0, 0, [30], none),
  (24, .aload_n 0, 1, 0, 0, 0, [], none),
  (25, .iconst 2, 1, 0, 0, 0, [], none),
  (26, .invokevirtual 101, 3, 0, 0, 0, [], some mX8_refuse),
  (29, .ireturn, 1, 0, 0, 0, [], none),
  (30, .aload_n 0, 1, 0, 0, 0, [], none),
  (31, .iconst 2, 1, 0, 0, 0, [], none),
  (32, .iload_n 1, 1, 0, 0, 0, [], none),
  (33, .aload_n 0, 1, 0, 0, 0, [], none),
  (34, .getfield 23, 3, 8, 2, 0, [], none),
  (37, .getfield 181, 3, 5, 6, 0, [], none),
  (40, .iload_n 1, 1, 0, 0, 0, [], none),
  (41, .iaload, 1, 0, 0, 0, [], none),
  (42, .iload_n 2, 1, 0, 0, 0, [], none),
  (43, .invokevirtual 353, 3, 0, 0, 0, [], some mX8_act),
  (46, .ireturn, 1, 0, 0, 0, [], none)]
set_option maxRecDepth 100000 in
theorem kX8_weigh : ab_def_ok mX8_weigh rX8_weigh := ⟨ab_mok_of 1102 101 1100 1101 (by decide +kernel), [0, 0, 743, 0, 0, 0, 455, 0, 0, 0, 0, 0, 0, 0, 0, 455, 0, 0, 0, 0, 0, 393, 162, 0, 0, 0, 1074, 0], by decide +kernel⟩
set_option maxRecDepth 100000 in
theorem vX8_weigh_0 {x : ab_Cx} {d mc ms : Nat} {Post : Option ab_V → List ab_Ob → Prop} (hx : ab_At x mX8_weigh d mc ms Post) (a1 a2 : Int) (w0 w1 w2 w3 w4 w5 w6 w7 w8 w9 w10 w11 w12 w13 w14 w15 : ab_Ob) (kc ks : Nat)
    (h : (∃ Q1 : Option ab_V → List ab_Ob → Prop, ab_Ct d 0 0 mX8_hasRule [ab_O 0, ab_I a1] [w0, w1, w2, w3, w4, w5, w6, w7, w8, w9, w10, w11, w12, w13, w14, w15] Q1 ∧ (∀ r2 : Int, Q1 (some (ab_I r2)) [w0, w1, w2, w3, w4, w5, w6, w7, w8, w9, w10, w11, w12, w13, w14, w15] → ((¬ r2 = 0 → ((a2 < 0 → (∃ Q3 : Option ab_V → List ab_Ob → Prop, ab_Ct d 0 0 mX8_refuse [ab_O 0, ab_I 2] [w0, w1, w2, w3, w4, w5, w6, w7, w8, w9, w10, w11, w12, w13, w14, w15] Q3 ∧ (∀ r4 : Int, ∀ v5 : ab_Ob, Q3 (some (ab_I r4)) [v5, w1, w2, w3, w4, w5, w6, w7, w8, w9, w10, w11, w12, w13, w14, w15] → Post (some (ab_I r4)) [v5, w1, w2, w3, w4, w5, w6, w7, w8, w9, w10, w11, w12, w13, w14, w15]))) ∧ (¬ a2 < 0 → ((a2 ≤ 99 → ((0 ≤ a1 ∧ a1 < (w3.2 6).1) ∧ (∃ Q6 : Option ab_V → List ab_Ob → Prop, ab_Ct d 0 0 mX8_act [ab_O 0, ab_I 2, ab_I a1, ab_I ((w3.2 6).2 a1), ab_I a2] [w0, w1, w2, w3, w4, w5, w6, w7, w8, w9, w10, w11, w12, w13, w14, w15] Q6 ∧ (∀ r7 : Int, ∀ v8 : ab_Ob, ∀ v9 : ab_Ob, ∀ v10 : ab_Ob, ∀ v11 : ab_Ob, Q6 (some (ab_I r7)) [v8, w1, w2, v9, v10, w5, w6, w7, v11, w9, w10, w11, w12, w13, w14, w15] → Post (some (ab_I r7)) [v8, w1, w2, v9, v10, w5, w6, w7, v11, w9, w10, w11, w12, w13, w14, w15])))) ∧ (¬ a2 ≤ 99 → (∃ Q12 : Option ab_V → List ab_Ob → Prop, ab_Ct d 0 0 mX8_refuse [ab_O 0, ab_I 2] [w0, w1, w2, w3, w4, w5, w6, w7, w8, w9, w10, w11, w12, w13, w14, w15] Q12 ∧ (∀ r13 : Int, ∀ v14 : ab_Ob, Q12 (some (ab_I r13)) [v14, w1, w2, w3, w4, w5, w6, w7, w8, w9, w10, w11, w12, w13, w14, w15] → Post (some (ab_I r13)) [v14, w1, w2, w3, w4, w5, w6, w7, w8, w9, w10, w11, w12, w13, w14, w15]))))))) ∧ (r2 = 0 → (∃ Q15 : Option ab_V → List ab_Ob → Prop, ab_Ct d 0 0 mX8_refuse [ab_O 0, ab_I 1] [w0, w1, w2, w3, w4, w5, w6, w7, w8, w9, w10, w11, w12, w13, w14, w15] Q15 ∧ (∀ r16 : Int, ∀ v17 : ab_Ob, Q15 (some (ab_I r16)) [v17, w1, w2, w3, w4, w5, w6, w7, w8, w9, w10, w11, w12, w13, w14, w15] → Post (some (ab_I r16)) [v17, w1, w2, w3, w4, w5, w6, w7, w8, w9, w10, w11, w12, w13, w14, w15]))))))) :
    ab_J x 0 [some (ab_O 0), some (ab_I a1), some (ab_I a2)] [] [w0, w1, w2, w3, w4, w5, w6, w7, w8, w9, w10, w11, w12, w13, w14, w15] kc ks := ab_go hx kX8_weigh.2 24 [] 0 h
def mX8_key : ab_M := ((yX8_key, cX8_key, 2, (some .int)), ([8, 4, 5, 5, 0, 1, 2, 7, 6, 1, 7, 7, 7, 7, 3, 3], [(0, 0), (0, 1), (0, 2), (0, 3), (0, 4), (0, 5), (0, 6), (0, 7), (0, 8), (0, 9), (0, 10), (0, 11), (0, 12), (0, 13), (0, 14), (0, 15)], [true, false, false, true, true, false, false, false, true, false, false, false, false, false, false, false], false, false, 0), (false, 8, 1))
def rX8_key : List ab_R := [(0, .aload_n 0, 1, 0, 0, 0, [], none),
  (1, .invokevirtual 130, 3, 0, 0, 0, [], some mX8_hasPiece),
  (4, .ifCond .ne 9, 3, 0, 0, 0, [13], none),
  (7, .aload_n 0, 1, 0, 0, 0, [], none),
  (8, .iconst 1, 1, 0, 0, 0, [], none),
  (9, .invokevirtual 101, 3, 0, 0, 0, [], some mX8_refuse),
  (12, .ireturn, 1, 0, 0, 0, [], none),
  (13, .iload_n 1, 1, 0, 0, 0, [], none),
  (14, .ifCond .lt 9, 3, 0, 0, 0, [23], none),
  (17, .iload_n 1, 1, 0, 0, 0, [], none),
  (18, .bipush 11, 2, 0, 0, 0, [], none),
  (20, .if_icmp .le 9, 3, 0, 0, 0, [29], none),
  (23, .aload_n 0, 1, 0, 0, 0, [], none),
  (24, .iconst 2, 1, 0, 0, 0, [], none),
  (25, .invokevirtual 101, 3, 0, 0, 0, [], some mX8_refuse),
  (28, .ireturn, 1, 0, 0, 0, [], none),
  (29, .aload_n 0, 1, 0, 0, 0, [], none),
  (30, .iconst 3, 1, 0, 0, 0, [], none),
  (31, .iconst 0, 1, 0, 0, 0, [], none),
  (32, .aload_n 0, 1, 0, 0, 0, [], none),
  (33, .getfield 23, 3, 8, 2, 0, [], none),
  (36, .getfield 140, 3, 5, 2, 0, [], none),
  (39, .iload_n 1, 1, 0, 0, 0, [], none),
  (40, .invokevirtual 353, 3, 0, 0, 0, [], some mX8_act),
  (43, .ireturn, 1, 0, 0, 0, [], none)]
set_option maxRecDepth 100000 in
theorem kX8_key : ab_def_ok mX8_key rX8_key := ⟨ab_mok_of 1106 101 1104 1105 (by decide +kernel), [0, 636, 0, 0, 0, 455, 0, 0, 0, 0, 0, 0, 0, 0, 455, 0, 0, 0, 0, 0, 393, 147, 0, 1074, 0], by decide +kernel⟩
set_option maxRecDepth 100000 in
theorem vX8_key_0 {x : ab_Cx} {d mc ms : Nat} {Post : Option ab_V → List ab_Ob → Prop} (hx : ab_At x mX8_key d mc ms Post) (a1 : Int) (w0 w1 w2 w3 w4 w5 w6 w7 w8 w9 w10 w11 w12 w13 w14 w15 : ab_Ob) (kc ks : Nat)
    (h : (∃ Q1 : Option ab_V → List ab_Ob → Prop, ab_Ct d 0 0 mX8_hasPiece [ab_O 0] [w0, w1, w2, w3, w4, w5, w6, w7, w8, w9, w10, w11, w12, w13, w14, w15] Q1 ∧ (∀ r2 : Int, Q1 (some (ab_I r2)) [w0, w1, w2, w3, w4, w5, w6, w7, w8, w9, w10, w11, w12, w13, w14, w15] → ((¬ r2 = 0 → ((a1 < 0 → (∃ Q3 : Option ab_V → List ab_Ob → Prop, ab_Ct d 0 0 mX8_refuse [ab_O 0, ab_I 2] [w0, w1, w2, w3, w4, w5, w6, w7, w8, w9, w10, w11, w12, w13, w14, w15] Q3 ∧ (∀ r4 : Int, ∀ v5 : ab_Ob, Q3 (some (ab_I r4)) [v5, w1, w2, w3, w4, w5, w6, w7, w8, w9, w10, w11, w12, w13, w14, w15] → Post (some (ab_I r4)) [v5, w1, w2, w3, w4, w5, w6, w7, w8, w9, w10, w11, w12, w13, w14, w15]))) ∧ (¬ a1 < 0 → ((a1 ≤ 11 → (∃ Q6 : Option ab_V → List ab_Ob → Prop, ab_Ct d 0 0 mX8_act [ab_O 0, ab_I 3, ab_I 0, ab_I (w3.1 2), ab_I a1] [w0, w1, w2, w3, w4, w5, w6, w7, w8, w9, w10, w11, w12, w13, w14, w15] Q6 ∧ (∀ r7 : Int, ∀ v8 : ab_Ob, ∀ v9 : ab_Ob, ∀ v10 : ab_Ob, ∀ v11 : ab_Ob, Q6 (some (ab_I r7)) [v8, w1, w2, v9, v10, w5, w6, w7, v11, w9, w10, w11, w12, w13, w14, w15] → Post (some (ab_I r7)) [v8, w1, w2, v9, v10, w5, w6, w7, v11, w9, w10, w11, w12, w13, w14, w15]))) ∧ (¬ a1 ≤ 11 → (∃ Q12 : Option ab_V → List ab_Ob → Prop, ab_Ct d 0 0 mX8_refuse [ab_O 0, ab_I 2] [w0, w1, w2, w3, w4, w5, w6, w7, w8, w9, w10, w11, w12, w13, w14, w15] Q12 ∧ (∀ r13 : Int, ∀ v14 : ab_Ob, Q12 (some (ab_I r13)) [v14, w1, w2, w3, w4, w5, w6, w7, w8, w9, w10, w11, w12, w13, w14, w15] → Post (some (ab_I r13)) [v14, w1, w2, w3, w4, w5, w6, w7, w8, w9, w10, w11, w12, w13, w14, w15]))))))) ∧ (r2 = 0 → (∃ Q15 : Option ab_V → List ab_Ob → Prop, ab_Ct d 0 0 mX8_refuse [ab_O 0, ab_I 1] [w0, w1, w2, w3, w4, w5, w6, w7, w8, w9, w10, w11, w12, w13, w14, w15] Q15 ∧ (∀ r16 : Int, ∀ v17 : ab_Ob, Q15 (some (ab_I r16)) [v17, w1, w2, w3, w4, w5, w6, w7, w8, w9, w10, w11, w12, w13, w14, w15] → Post (some (ab_I r16)) [v17, w1, w2, w3, w4, w5, w6, w7, w8, w9, w10, w11, w12, w13, w14, w15]))))))) :
    ab_J x 0 [some (ab_O 0), some (ab_I a1)] [] [w0, w1, w2, w3, w4, w5, w6, w7, w8, w9, w10, w11, w12, w13, w14, w15] kc ks := ab_go hx kX8_key.2 21 [] 0 h
def mX8_move : ab_M := ((yX8_move, cX8_move, 2, (some .int)), ([8, 4, 5, 5, 0, 1, 2, 7, 6, 1, 7, 7, 7, 7, 3, 3], [(0, 0), (0, 1), (0, 2), (0, 3), (0, 4), (0, 5), (0, 6), (0, 7), (0, 8), (0, 9), (0, 10), (0, 11), (0, 12), (0, 13), (0, 14), (0, 15)], [true, false, false, true, true, true, false, false, true, false, false, false, false, false, false, false], true, true, 0), (false, 8, 1))
def rX8_move : List ab_R := [(0, .aload_n 0, 1, 0, 0, 0, [], none),
  (1, .invokevirtual 130, 3, 0, 0, 0, [], some mX8_hasPiece),
  (4, .ifCond .ne 9, 3, 0, 0, 0, [13], none),
  (7, .aload_n 0, 1, 0, 0, 0, [], none),
  (8, .iconst 1, 1, 0, 0, 0, [], none),
  (9, .invokevirtual 101, 3, 0, 0, 0, [], some mX8_refuse),
  (12, .ireturn, 1, 0, 0, 0, [], none),
  (13, .iload_n 1, 1, 0, 0, 0, [], none),
  (14, .bipush (-99), 2, 0, 0, 0, [], none),
  (16, .if_icmp .lt 9, 3, 0, 0, 0, [25], none),
  (19, .iload_n 1, 1, 0, 0, 0, [], none),
  (20, .bipush 99, 2, 0, 0, 0, [], none),
  (22, .if_icmp .le 9, 3, 0, 0, 0, [31], none),
  (25, .aload_n 0, 1, 0, 0, 0, [], none),
  (26, .iconst 2, 1, 0, 0, 0, [], none),
  (27, .invokevirtual 101, 3, 0, 0, 0, [], some mX8_refuse),
  (30, .ireturn, 1, 0, 0, 0, [], none),
  (31, .aload_n 0, 1, 0, 0, 0, [], none),
  (32, .getfield 23, 3, 8, 2, 0, [], none),
  (35, .iload_n 1, 1, 0, 0, 0, [], none),
  (36, .invokevirtual 357, 3, 0, 0, 0, [], some mX5_canMove),
  (39, .ifCond .ne 9, 3, 0, 0, 0, [48], none),
  (42, .aload_n 0, 1, 0, 0, 0, [], none),
  (43, .iconst 5, 1, 0, 0, 0, [], none),
  (44, .invokevirtual 101, 3, 0, 0, 0, [], some mX8_refuse),
  (47, .ireturn, 1, 0, 0, 0, [], none),
  (48, .aload_n 0, 1, 0, 0, 0, [], none),
  (49, .iconst 4, 1, 0, 0, 0, [], none),
  (50, .iconst 0, 1, 0, 0, 0, [], none),
  (51, .iload_n 1, 1, 0, 0, 0, [], none),
  (52, .ineg, 1, 0, 0, 0, [], none),
  (53, .iload_n 1, 1, 0, 0, 0, [], none),
  (54, .invokevirtual 353, 3, 0, 0, 0, [], some mX8_act),
  (57, .pop, 1, 0, 0, 0, [], none),
  (58, .aload_n 0, 1, 0, 0, 0, [], none),
  (59, .aload_n 0, 1, 0, 0, 0, [], none),
  (60, .invokevirtual 335, 3, 0, 0, 0, [], some mX8_wholeBreaks),
  (63, .invokevirtual 124, 3, 0, 0, 0, [], some mX8_grant),
  (66, .ireturn, 1, 0, 0, 0, [], none)]
set_option maxRecDepth 100000 in
theorem kX8_move : ab_def_ok mX8_move rX8_move := ⟨ab_mok_of 1110 101 1108 1109 (by decide +kernel), [0, 636, 0, 0, 0, 455, 0, 0, 0, 0, 0, 0, 0, 0, 0, 455, 0, 0, 393, 0, 1111, 0, 0, 0, 455, 0, 0, 0, 0, 0, 0, 0, 1074, 0, 0, 0, 1036, 620, 0], by decide +kernel⟩
set_option maxRecDepth 100000 in
theorem vX8_move_0 {x : ab_Cx} {d mc ms : Nat} {Post : Option ab_V → List ab_Ob → Prop} (hx : ab_At x mX8_move d mc ms Post) (a1 : Int) (w0 w1 w2 w3 w4 w5 w6 w7 w8 w9 w10 w11 w12 w13 w14 w15 : ab_Ob) (kc ks : Nat)
    (h : (∃ Q1 : Option ab_V → List ab_Ob → Prop, ab_Ct d 0 0 mX8_hasPiece [ab_O 0] [w0, w1, w2, w3, w4, w5, w6, w7, w8, w9, w10, w11, w12, w13, w14, w15] Q1 ∧ (∀ r2 : Int, Q1 (some (ab_I r2)) [w0, w1, w2, w3, w4, w5, w6, w7, w8, w9, w10, w11, w12, w13, w14, w15] → ((¬ r2 = 0 → ((a1 < (-99) → (∃ Q3 : Option ab_V → List ab_Ob → Prop, ab_Ct d 0 0 mX8_refuse [ab_O 0, ab_I 2] [w0, w1, w2, w3, w4, w5, w6, w7, w8, w9, w10, w11, w12, w13, w14, w15] Q3 ∧ (∀ r4 : Int, ∀ v5 : ab_Ob, Q3 (some (ab_I r4)) [v5, w1, w2, w3, w4, w5, w6, w7, w8, w9, w10, w11, w12, w13, w14, w15] → Post (some (ab_I r4)) [v5, w1, w2, w3, w4, w5, w6, w7, w8, w9, w10, w11, w12, w13, w14, w15]))) ∧ (¬ a1 < (-99) → ((a1 ≤ 99 → (∃ Q6 : Option ab_V → List ab_Ob → Prop, ab_Ct d 0 0 mX5_canMove [ab_O 0, ab_I a1] [w3] Q6 ∧ (∀ r7 : Int, Q6 (some (ab_I r7)) [w3] → ((¬ r7 = 0 → ((-2147483648 ≤ -a1 ∧ -a1 ≤ 2147483647) ∧ (∃ Q8 : Option ab_V → List ab_Ob → Prop, ab_Ct d 0 0 mX8_act [ab_O 0, ab_I 4, ab_I 0, ab_I (-a1), ab_I a1] [w0, w1, w2, w3, w4, w5, w6, w7, w8, w9, w10, w11, w12, w13, w14, w15] Q8 ∧ (∀ r9 : Int, ∀ v10 : ab_Ob, ∀ v11 : ab_Ob, ∀ v12 : ab_Ob, ∀ v13 : ab_Ob, Q8 (some (ab_I r9)) [v10, w1, w2, v11, v12, w5, w6, w7, v13, w9, w10, w11, w12, w13, w14, w15] → (∃ mc14 ms15 : Nat, (kc + mc14 ≤ mc ∧ ks + ms15 ≤ ms) ∧ ∃ Q16 : Option ab_V → List ab_Ob → Prop, ab_Ct d mc14 ms15 mX8_wholeBreaks [ab_O 0] [v10, w1, w2, v11, v12, w5, w6, w7, v13, w9, w10, w11, w12, w13, w14, w15] Q16 ∧ (∀ r17 : Int, ∀ v18 : ab_Ob, ∀ v19 : ab_Ob, Q16 (some (ab_I r17)) [v18, w1, w2, v11, v12, v19, w6, w7, v13, w9, w10, w11, w12, w13, w14, w15] → (∃ Q20 : Option ab_V → List ab_Ob → Prop, ab_Ct d 0 0 mX8_grant [ab_O 0, ab_I r17] [v18, w1, w2, v11, v12, v19, w6, w7, v13, w9, w10, w11, w12, w13, w14, w15] Q20 ∧ (∀ r21 : Int, ∀ v22 : ab_Ob, Q20 (some (ab_I r21)) [v22, w1, w2, v11, v12, v19, w6, w7, v13, w9, w10, w11, w12, w13, w14, w15] → Post (some (ab_I r21)) [v22, w1, w2, v11, v12, v19, w6, w7, v13, w9, w10, w11, w12, w13, w14, w15])))))))) ∧ (r7 = 0 → (∃ Q23 : Option ab_V → List ab_Ob → Prop, ab_Ct d 0 0 mX8_refuse [ab_O 0, ab_I 5] [w0, w1, w2, w3, w4, w5, w6, w7, w8, w9, w10, w11, w12, w13, w14, w15] Q23 ∧ (∀ r24 : Int, ∀ v25 : ab_Ob, Q23 (some (ab_I r24)) [v25, w1, w2, w3, w4, w5, w6, w7, w8, w9, w10, w11, w12, w13, w14, w15] → Post (some (ab_I r24)) [v25, w1, w2, w3, w4, w5, w6, w7, w8, w9, w10, w11, w12, w13, w14, w15]))))))) ∧ (¬ a1 ≤ 99 → (∃ Q26 : Option ab_V → List ab_Ob → Prop, ab_Ct d 0 0 mX8_refuse [ab_O 0, ab_I 2] [w0, w1, w2, w3, w4, w5, w6, w7, w8, w9, w10, w11, w12, w13, w14, w15] Q26 ∧ (∀ r27 : Int, ∀ v28 : ab_Ob, Q26 (some (ab_I r27)) [v28, w1, w2, w3, w4, w5, w6, w7, w8, w9, w10, w11, w12, w13, w14, w15] → Post (some (ab_I r27)) [v28, w1, w2, w3, w4, w5, w6, w7, w8, w9, w10, w11, w12, w13, w14, w15]))))))) ∧ (r2 = 0 → (∃ Q29 : Option ab_V → List ab_Ob → Prop, ab_Ct d 0 0 mX8_refuse [ab_O 0, ab_I 1] [w0, w1, w2, w3, w4, w5, w6, w7, w8, w9, w10, w11, w12, w13, w14, w15] Q29 ∧ (∀ r30 : Int, ∀ v31 : ab_Ob, Q29 (some (ab_I r30)) [v31, w1, w2, w3, w4, w5, w6, w7, w8, w9, w10, w11, w12, w13, w14, w15] → Post (some (ab_I r30)) [v31, w1, w2, w3, w4, w5, w6, w7, w8, w9, w10, w11, w12, w13, w14, w15]))))))) :
    ab_J x 0 [some (ab_O 0), some (ab_I a1)] [] [w0, w1, w2, w3, w4, w5, w6, w7, w8, w9, w10, w11, w12, w13, w14, w15] kc ks := ab_go hx kX8_move.2 31 [] 0 h
def mX8_undo : ab_M := ((yX8_undo, cX8_undo, 2, (some .boolean)), ([8, 4, 5, 5, 0, 1, 2, 7, 6, 1, 7, 7, 7, 7, 3, 3], [(0, 0), (0, 1), (0, 2), (0, 3), (0, 4), (0, 5), (0, 6), (0, 7), (0, 8), (0, 9), (0, 10), (0, 11), (0, 12), (0, 13), (0, 14), (0, 15)], [true, false, false, true, true, false, false, false, true, false, false, false, false, false, false, false], false, false, 0), (false, 8, 0))
def rX8_undo : List ab_R := [(0, .aload_n 0, 1, 0, 0, 0, [], none),
  (1, .getfield 30, 3, 8, 3, 0, [], none),
  (4, .getfield 115, 3, 0, 0, 0, [], none),
  (7, .iconst 1, 1, 0, 0, 0, [], none),
  (8, .if_icmp .ge 10, 3, 0, 0, 0, [18], none),
  (11, .aload_n 0, 1, 0, 0, 0, [], none),
  (12, .iconst 1, 1, 0, 0, 0, [], none),
  (13, .putfield 9, 3, 8, 0, 0, [], none),
  (16, .iconst 0, 1, 0, 0, 0, [], none),
  (17, .ireturn, 1, 0, 0, 0, [], none),
  (18, .aload_n 0, 1, 0, 0, 0, [], none),
  (19, .getfield 30, 3, 8, 3, 0, [], none),
  (22, .dup, 1, 0, 0, 0, [], none),
  (23, .getfield 115, 3, 0, 0, 0, [], none),
  (26, .iconst 1, 1, 0, 0, 0, [], none),
  (27, .isub, 1, 0, 0, 0, [], none),
  (28, .putfield 115, 3, 0, 0, 0, [], none),
  (31, .aload_n 0, 1, 0, 0, 0, [], none),
  (32, .getfield 30, 3, 8, 3, 0, [], none),
  (35, .getfield 115, 3, 0, 0, 0, [], none),
  (38, .istore_n 1, 1, 0, 0, 0, [], none),
  (39, .aload_n 0, 1, 0, 0, 0, [], none),
  (40, .aload_n 0, 1, 0, 0, 0, [], none),
  (41, .getfield 30, 3, 8, 3, 0, [], none),
  (44, .getfield 360, 3, 0, 1, 0, [], none),
  (47, .iload_n 1, 1, 0, 0, 0, [], none),
  (48, .iaload, 1, 0, 0, 0, [], none),
  (49, .aload_n 0, 1, 0, 0, 0, [], none),
  (50, .getfield 30, 3, 8, 3, 0, [], none),
  (53, .getfield 363, 3, 0, 2, 0, [], none),
  (56, .iload_n 1, 1, 0, 0, 0, [], none),
  (57, .iaload, 1, 0, 0, 0, [], none),
  (58, .aload_n 0, 1, 0, 0, 0, [], none),
  (59, .getfield 30, 3, 8, 3, 0, [], none),
  (62, .getfield 366, 3, 0, 3, 0, [], none),
  (65, .iload_n 1, 1, 0, 0, 0, [], none),
  (66, .iaload, 1, 0, 0, 0, [], none),
  (67, .invokevirtual 369, 3, 0, 0, 0, [], some mX8_change),
  (70, .aload_n 0, 1, 0, 0, 0, [], none),
  (71, .iconst 0, 1, 0, 0, 0, [], none),
  (72, .putfield 9, 3, 8, 0, 0, [], none),
  (75, .iconst 1, 1, 0, 0, 0, [], none),
  (76, .ireturn, 1, 0, 0, 0, [], none)]
set_option maxRecDepth 100000 in
theorem kX8_undo : ab_def_ok mX8_undo rX8_undo := ⟨ab_mok_of 1118 101 1116 1117 (by decide +kernel), [0, 394, 240, 0, 0, 0, 0, 391, 0, 0, 0, 394, 0, 240, 0, 0, 240, 0, 394, 240, 0, 0, 0, 394, 242, 0, 0, 0, 394, 244, 0, 0, 0, 394, 246, 0, 0, 1086, 0, 0, 391, 0, 0], by decide +kernel⟩
set_option maxRecDepth 100000 in
theorem vX8_undo_0 {x : ab_Cx} {d mc ms : Nat} {Post : Option ab_V → List ab_Ob → Prop} (hx : ab_At x mX8_undo d mc ms Post) (w0 w1 w2 w3 w4 w5 w6 w7 w8 w9 w10 w11 w12 w13 w14 w15 : ab_Ob) (kc ks : Nat)
    (h : ((1 ≤ (w4.1 0) → ((-2147483648 ≤ (w4.1 0) - 1 ∧ (w4.1 0) - 1 ≤ 2147483647) ∧ ((0 ≤ ((w4.1 0) - 1) ∧ ((w4.1 0) - 1) < (w4.2 1).1) ∧ ((0 ≤ ((w4.1 0) - 1) ∧ ((w4.1 0) - 1) < (w4.2 2).1) ∧ ((0 ≤ ((w4.1 0) - 1) ∧ ((w4.1 0) - 1) < (w4.2 3).1) ∧ (∃ Q1 : Option ab_V → List ab_Ob → Prop, ab_Ct d 0 0 mX8_change [ab_O 0, ab_I ((w4.2 1).2 ((w4.1 0) - 1)), ab_I ((w4.2 2).2 ((w4.1 0) - 1)), ab_I ((w4.2 3).2 ((w4.1 0) - 1))] [w0, w1, w2, w3, (ab_pf w4 0 ((w4.1 0) - 1)), w5, w6, w7, w8, w9, w10, w11, w12, w13, w14, w15] Q1 ∧ (∀ v2 : ab_Ob, ∀ v3 : ab_Ob, ∀ v4 : ab_Ob, Q1 none [v2, w1, w2, v3, (ab_pf w4 0 ((w4.1 0) - 1)), w5, w6, w7, v4, w9, w10, w11, w12, w13, w14, w15] → (((1 : Int) = 0 ∨ (1 : Int) = 1) ∧ Post (some (ab_I 1)) [(ab_pf v2 0 0), w1, w2, v3, (ab_pf w4 0 ((w4.1 0) - 1)), w5, w6, w7, v4, w9, w10, w11, w12, w13, w14, w15])))))))) ∧ (¬ 1 ≤ (w4.1 0) → (((0 : Int) = 0 ∨ (0 : Int) = 1) ∧ Post (some (ab_I 0)) [(ab_pf w0 0 1), w1, w2, w3, w4, w5, w6, w7, w8, w9, w10, w11, w12, w13, w14, w15])))) :
    ab_J x 0 [some (ab_O 0), none] [] [w0, w1, w2, w3, w4, w5, w6, w7, w8, w9, w10, w11, w12, w13, w14, w15] kc ks := ab_go hx kX8_undo.2 42 [] 0 h
def mX8_size : ab_M := ((yX8_size, cX8_size, 2, (some .int)), ([8, 4, 5, 5, 0, 1, 2, 7, 6, 1, 7, 7, 7, 7, 3, 3], [(0, 0), (0, 1), (0, 2), (0, 3), (0, 4), (0, 5), (0, 6), (0, 7), (0, 8), (0, 9), (0, 10), (0, 11), (0, 12), (0, 13), (0, 14), (0, 15)], [false, false, false, false, false, false, false, false, false, false, false, false, false, false, false, false], false, false, 0), (false, 8, 1))
def rX8_size : List ab_R := [(0, .iload_n 1, 1, 0, 0, 0, [], none),
  (1, .tableswitch 56 0 2 #[27, 35, 43], 27, 0, 0, 0, [57, 28, 36, 44], none),
  (28, .aload_n 0, 1, 0, 0, 0, [], none),
  (29, .getfield 16, 3, 8, 1, 0, [], none),
  (32, .getfield 94, 3, 4, 0, 0, [], none),
  (35, .ireturn, 1, 0, 0, 0, [], none),
  (36, .aload_n 0, 1, 0, 0, 0, [], none),
  (37, .getfield 30, 3, 8, 3, 0, [], none),
  (40, .getfield 115, 3, 0, 0, 0, [], none),
  (43, .ireturn, 1, 0, 0, 0, [], none),
  (44, .aload_n 0, 1, 0, 0, 0, [], none),
  (45, .getfield 75, 3, 8, 12, 0, [], none),
  (48, .ifCond .eq 7, 3, 0, 0, 0, [55], none),
  (51, .iconst 1, 1, 0, 0, 0, [], none),
  (52, .goto 4, 3, 0, 0, 0, [56], none),
  (55, .iconst 0, 1, 0, 0, 0, [], none),
  (56, .ireturn, 1, 0, 0, 0, [], none),
  (57, .iconst (-1), 1, 0, 0, 0, [], none),
  (58, .ireturn, 1, 0, 0, 0, [], none)]
set_option maxRecDepth 100000 in
theorem kX8_size : ab_def_ok mX8_size rX8_size := ⟨ab_mok_of 1122 101 1120 1121 (by decide +kernel), [0, 0, 0, 392, 194, 0, 0, 394, 240, 0, 0, 403, 0, 0, 0, 0, 0, 0, 0], by decide +kernel⟩
set_option maxRecDepth 100000 in
theorem vX8_size_0 {x : ab_Cx} {d mc ms : Nat} {Post : Option ab_V → List ab_Ob → Prop} (hx : ab_At x mX8_size d mc ms Post) (a1 : Int) (w0 w1 w2 w3 w4 w5 w6 w7 w8 w9 w10 w11 w12 w13 w14 w15 : ab_Ob) (kc ks : Nat)
    (h : ((a1 < 0 ∨ 2 < a1 → Post (some (ab_I (-1))) [w0, w1, w2, w3, w4, w5, w6, w7, w8, w9, w10, w11, w12, w13, w14, w15]) ∧ ((a1 = 0 → Post (some (ab_I (w1.1 0))) [w0, w1, w2, w3, w4, w5, w6, w7, w8, w9, w10, w11, w12, w13, w14, w15]) ∧ ((a1 = 1 → Post (some (ab_I (w4.1 0))) [w0, w1, w2, w3, w4, w5, w6, w7, w8, w9, w10, w11, w12, w13, w14, w15]) ∧ ((a1 = 2 → (((w0.1 12) = 0 → Post (some (ab_I 0)) [w0, w1, w2, w3, w4, w5, w6, w7, w8, w9, w10, w11, w12, w13, w14, w15]) ∧ (¬ (w0.1 12) = 0 → Post (some (ab_I 1)) [w0, w1, w2, w3, w4, w5, w6, w7, w8, w9, w10, w11, w12, w13, w14, w15]))) ∧ True))))) :
    ab_J x 0 [some (ab_O 0), some (ab_I a1)] [] [w0, w1, w2, w3, w4, w5, w6, w7, w8, w9, w10, w11, w12, w13, w14, w15] kc ks := ab_go hx kX8_size.2 12 [] 0 h
def mX8_trouble : ab_M := ((yX8_trouble, cX8_trouble, 1, (some .int)), ([8, 4, 5, 5, 0, 1, 2, 7, 6, 1, 7, 7, 7, 7, 3, 3], [(0, 0), (0, 1), (0, 2), (0, 3), (0, 4), (0, 5), (0, 6), (0, 7), (0, 8), (0, 9), (0, 10), (0, 11), (0, 12), (0, 13), (0, 14), (0, 15)], [false, false, false, false, false, false, false, false, false, false, false, false, false, false, false, false], false, false, 0), (false, 8, 0))
def rX8_trouble : List ab_R := [(0, .aload_n 0, 1, 0, 0, 0, [], none),
  (1, .getfield 9, 3, 8, 0, 0, [], none),
  (4, .ireturn, 1, 0, 0, 0, [], none)]
set_option maxRecDepth 100000 in
theorem kX8_trouble : ab_def_ok mX8_trouble rX8_trouble := ⟨ab_mok_of 1126 101 1124 1125 (by decide +kernel), [0, 391, 0], by decide +kernel⟩
set_option maxRecDepth 100000 in
theorem vX8_trouble_0 {x : ab_Cx} {d mc ms : Nat} {Post : Option ab_V → List ab_Ob → Prop} (hx : ab_At x mX8_trouble d mc ms Post) (w0 w1 w2 w3 w4 w5 w6 w7 w8 w9 w10 w11 w12 w13 w14 w15 : ab_Ob) (kc ks : Nat)
    (h : Post (some (ab_I (w0.1 0))) [w0, w1, w2, w3, w4, w5, w6, w7, w8, w9, w10, w11, w12, w13, w14, w15]) :
    ab_J x 0 [some (ab_O 0)] [] [w0, w1, w2, w3, w4, w5, w6, w7, w8, w9, w10, w11, w12, w13, w14, w15] kc ks := ab_go hx kX8_trouble.2 7 [] 0 h
