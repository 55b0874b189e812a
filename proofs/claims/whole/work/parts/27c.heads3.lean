def mX8_echo : ab_M := ((yX8_echo, cX8_echo, 6, (some .int)), ([8, 4, 5, 5, 0, 1, 2, 7, 6, 1, 7, 7, 7, 7, 3, 3], [(0, 0), (0, 1), (0, 2), (0, 3), (0, 4), (0, 5), (0, 6), (0, 7), (0, 8), (0, 9), (0, 10), (0, 11), (0, 12), (0, 13), (0, 14), (0, 15)], [true, false, false, false, false, true, false, true, false, false, false, false, false, false, false, true], true, true, 0), (false, 8, 2))
def rX8_echo : List ab_R := [(0, .aload_n 0, 1, 0, 0, 0, [], none),
  (1, .aload_n 0, 1, 0, 0, 0, [], none),
  (2, .getfield 87, 3, 8, 15, 0, [], none),
  (5, .iload_n 1, 1, 0, 0, 0, [], none),
  (6, .invokevirtual 262, 3, 0, 0, 0, [], some mX8_cutLayer),
  (9, .istore_n 3, 1, 0, 0, 0, [], none),
  (10, .iload_n 3, 1, 0, 0, 0, [], none),
  (11, .ifCond .ne 13, 3, 0, 0, 0, [24], none),
  (14, .aload_n 0, 1, 0, 0, 0, [], none),
  (15, .aload_n 0, 1, 0, 0, 0, [], none),
  (16, .getfield 91, 3, 8, 16, 0, [], none),
  (19, .iload_n 2, 1, 0, 0, 0, [], none),
  (20, .invokevirtual 262, 3, 0, 0, 0, [], some mX8_cutLayer),
  (23, .istore_n 3, 1, 0, 0, 0, [], none),
  (24, .iload_n 3, 1, 0, 0, 0, [], none),
  (25, .ifCond .eq 9, 3, 0, 0, 0, [34], none),
  (28, .aload_n 0, 1, 0, 0, 0, [], none),
  (29, .iload_n 3, 1, 0, 0, 0, [], none),
  (30, .invokevirtual 101, 3, 0, 0, 0, [], some mX8_refuse),
  (33, .ireturn, 1, 0, 0, 0, [], none),
  (34, .iconst 0, 1, 0, 0, 0, [], none),
  (35, .istore 4, 2, 0, 0, 0, [], none),
  (37, .iconst 0, 1, 0, 0, 0, [], none),
  (38, .istore 5, 2, 0, 0, 0, [], none),
  (40, .iload 5, 2, 0, 0, 0, [], none),
  (42, .aload_n 0, 1, 0, 0, 0, [], none),
  (43, .getfield 87, 3, 8, 15, 0, [], none),
  (46, .getfield 266, 3, 3, 0, 0, [], none),
  (49, .iadd, 1, 0, 0, 0, [], none),
  (50, .aload_n 0, 1, 0, 0, 0, [], none),
  (51, .getfield 91, 3, 8, 16, 0, [], none),
  (54, .getfield 266, 3, 3, 0, 0, [], none),
  (57, .if_icmp .gt 32, 3, 0, 0, 0, [89], none),
  (60, .aload_n 0, 1, 0, 0, 0, [], none),
  (61, .getfield 87, 3, 8, 15, 0, [], none),
  (64, .aload_n 0, 1, 0, 0, 0, [], none),
  (65, .getfield 23, 3, 8, 2, 0, [], none),
  (68, .aload_n 0, 1, 0, 0, 0, [], none),
  (69, .getfield 91, 3, 8, 16, 0, [], none),
  (72, .iload 5, 2, 0, 0, 0, [], none),
  (74, .invokevirtual 290, 3, 0, 0, 0, [], some mX3_stepsAsIn),
  (77, .ifCond .eq 6, 3, 0, 0, 0, [83], none),
  (80, .iinc 4 1, 3, 0, 0, 0, [], none),
  (83, .iinc 5 1, 3, 0, 0, 0, [], none),
  (86, .goto (-46), 3, 0, 0, 0, [40], none),
  (89, .aload_n 0, 1, 0, 0, 0, [], none),
  (90, .iload 4, 2, 0, 0, 0, [], none),
  (92, .invokevirtual 124, 3, 0, 0, 0, [], some mX8_grant),
  (95, .ireturn, 1, 0, 0, 0, [], none)]
set_option maxRecDepth 100000 in
theorem kX8_echo : ab_def_ok mX8_echo rX8_echo := ⟨ab_mok_of 928 101 926 927 (by decide +kernel), [0, 0, 406, 0, 879, 0, 0, 0, 0, 0, 407, 0, 879, 0, 0, 0, 0, 0, 455, 0, 0, 0, 0, 0, 0, 0, 406, 375, 0, 0, 407, 375, 0, 0, 406, 0, 393, 0, 407, 0, 929, 0, 0, 0, 0, 0, 0, 620, 0], by decide +kernel⟩
set_option maxRecDepth 100000 in
theorem vX8_echo_0 {x : ab_Cx} {d mc ms : Nat} {Post : Option ab_V → List ab_Ob → Prop} (hx : ab_At x mX8_echo d mc ms Post) (a1 a2 : Int) (w0 w1 w2 w3 w4 w5 w6 w7 w8 w9 w10 w11 w12 w13 w14 w15 : ab_Ob) (kc ks : Nat)
    (h : (∃ mc1 ms2 : Nat, (kc + mc1 ≤ mc ∧ ks + ms2 ≤ ms) ∧ ∃ Q3 : Option ab_V → List ab_Ob → Prop, ab_Ct d mc1 ms2 mX8_cutLayer [ab_O 0, ab_O 14, ab_I a1] [w0, w1, w2, w3, w4, w5, w6, w7, w8, w9, w10, w11, w12, w13, w14, w15] Q3 ∧ (∀ r4 : Int, ∀ v5 : ab_Ob, ∀ v6 : ab_Ob, ∀ v7 : ab_Ob, ∀ v8 : ab_Ob, Q3 (some (ab_I r4)) [v5, w1, w2, w3, w4, v6, w6, v7, w8, w9, w10, w11, w12, w13, w14, v8] → ((¬ r4 = 0 → ((r4 = 0 → ab_J x 40 [some (ab_O 0), none, none, none, some (ab_I 0), some (ab_I 0)] [] [v5, w1, w2, w3, w4, v6, w6, v7, w8, w9, w10, w11, w12, w13, w14, v8] (kc + mc1) (ks + ms2)) ∧ (¬ r4 = 0 → (∃ Q9 : Option ab_V → List ab_Ob → Prop, ab_Ct d 0 0 mX8_refuse [ab_O 0, ab_I r4] [v5, w1, w2, w3, w4, v6, w6, v7, w8, w9, w10, w11, w12, w13, w14, v8] Q9 ∧ (∀ r10 : Int, ∀ v11 : ab_Ob, Q9 (some (ab_I r10)) [v11, w1, w2, w3, w4, v6, w6, v7, w8, w9, w10, w11, w12, w13, w14, v8] → Post (some (ab_I r10)) [v11, w1, w2, w3, w4, v6, w6, v7, w8, w9, w10, w11, w12, w13, w14, v8]))))) ∧ (r4 = 0 → (∃ mc12 ms13 : Nat, ((kc + mc1) + mc12 ≤ mc ∧ (ks + ms2) + ms13 ≤ ms) ∧ ∃ Q14 : Option ab_V → List ab_Ob → Prop, ab_Ct d mc12 ms13 mX8_cutLayer [ab_O 0, ab_O 15, ab_I a2] [v5, w1, w2, w3, w4, v6, w6, v7, w8, w9, w10, w11, w12, w13, w14, v8] Q14 ∧ (∀ r15 : Int, ∀ v16 : ab_Ob, ∀ v17 : ab_Ob, ∀ v18 : ab_Ob, ∀ v19 : ab_Ob, Q14 (some (ab_I r15)) [v16, w1, w2, w3, w4, v17, w6, v18, w8, w9, w10, w11, w12, w13, w14, v19] → ((r15 = 0 → ab_J x 40 [some (ab_O 0), none, none, none, some (ab_I 0), some (ab_I 0)] [] [v16, w1, w2, w3, w4, v17, w6, v18, w8, w9, w10, w11, w12, w13, w14, v19] ((kc + mc1) + mc12) ((ks + ms2) + ms13)) ∧ (¬ r15 = 0 → (∃ Q20 : Option ab_V → List ab_Ob → Prop, ab_Ct d 0 0 mX8_refuse [ab_O 0, ab_I r15] [v16, w1, w2, w3, w4, v17, w6, v18, w8, w9, w10, w11, w12, w13, w14, v19] Q20 ∧ (∀ r21 : Int, ∀ v22 : ab_Ob, Q20 (some (ab_I r21)) [v22, w1, w2, w3, w4, v17, w6, v18, w8, w9, w10, w11, w12, w13, w14, v19] → Post (some (ab_I r21)) [v22, w1, w2, w3, w4, v17, w6, v18, w8, w9, w10, w11, w12, w13, w14, v19]))))))))))) :
    ab_J x 0 [some (ab_O 0), some (ab_I a1), some (ab_I a2), none, none, none] [] [w0, w1, w2, w3, w4, w5, w6, w7, w8, w9, w10, w11, w12, w13, w14, w15] kc ks := ab_go hx kX8_echo.2 25 [(40, [true, false, false, false, true, true])] 0 h
set_option maxRecDepth 100000 in
theorem vX8_echo_40 {x : ab_Cx} {d mc ms : Nat} {Post : Option ab_V → List ab_Ob → Prop} (hx : ab_At x mX8_echo d mc ms Post) (l4 l5 : Int) (w0 w1 w2 w3 w4 w5 w6 w7 w8 w9 w10 w11 w12 w13 w14 w15 : ab_Ob) (kc ks : Nat)
    (h : ((-2147483648 ≤ l5 + (w14.1 0) ∧ l5 + (w14.1 0) ≤ 2147483647) ∧ (((w15.1 0) < (l5 + (w14.1 0)) → (∃ Q1 : Option ab_V → List ab_Ob → Prop, ab_Ct d 0 0 mX8_grant [ab_O 0, ab_I l4] [w0, w1, w2, w3, w4, w5, w6, w7, w8, w9, w10, w11, w12, w13, w14, w15] Q1 ∧ (∀ r2 : Int, ∀ v3 : ab_Ob, Q1 (some (ab_I r2)) [v3, w1, w2, w3, w4, w5, w6, w7, w8, w9, w10, w11, w12, w13, w14, w15] → Post (some (ab_I r2)) [v3, w1, w2, w3, w4, w5, w6, w7, w8, w9, w10, w11, w12, w13, w14, w15]))) ∧ (¬ (w15.1 0) < (l5 + (w14.1 0)) → (∃ Q4 : Option ab_V → List ab_Ob → Prop, ab_Ct d 0 0 mX3_stepsAsIn [ab_O 0, ab_O 1, ab_O 2, ab_I l5] [w14, w3, w15] Q4 ∧ (∀ r5 : Int, Q4 (some (ab_I r5)) [w14, w3, w15] → ((r5 = 0 → ((-2147483648 ≤ l5 + 1 ∧ l5 + 1 ≤ 2147483647) ∧ ab_J x 40 [some (ab_O 0), none, none, none, some (ab_I l4), some (ab_I (l5 + 1))] [] [w0, w1, w2, w3, w4, w5, w6, w7, w8, w9, w10, w11, w12, w13, w14, w15] kc ks)) ∧ (¬ r5 = 0 → ((-2147483648 ≤ l4 + 1 ∧ l4 + 1 ≤ 2147483647) ∧ ((-2147483648 ≤ l5 + 1 ∧ l5 + 1 ≤ 2147483647) ∧ ab_J x 40 [some (ab_O 0), none, none, none, some (ab_I (l4 + 1)), some (ab_I (l5 + 1))] [] [w0, w1, w2, w3, w4, w5, w6, w7, w8, w9, w10, w11, w12, w13, w14, w15] kc ks)))))))))) :
    ab_J x 40 [some (ab_O 0), none, none, none, some (ab_I l4), some (ab_I l5)] [] [w0, w1, w2, w3, w4, w5, w6, w7, w8, w9, w10, w11, w12, w13, w14, w15] kc ks := ab_go hx kX8_echo.2 26 [(40, [true, false, false, false, true, true])] 40 h
def mX8_over : ab_M := ((yX8_over, cX8_over, 3, (some .int)), ([8, 4, 5, 5, 0, 1, 2, 7, 6, 1, 7, 7, 7, 7, 3, 3], [(0, 0), (0, 1), (0, 2), (0, 3), (0, 4), (0, 5), (0, 6), (0, 7), (0, 8), (0, 9), (0, 10), (0, 11), (0, 12), (0, 13), (0, 14), (0, 15)], [true, false, false, false, false, true, false, true, false, false, false, false, false, false, false, false], true, true, 0), (false, 8, 2))
def rX8_over : List ab_R := [(0, .aload_n 0, 1, 0, 0, 0, [], none),
  (1, .iload_n 1, 1, 0, 0, 0, [], none),
  (2, .invokevirtual 151, 3, 0, 0, 0, [], some mX8_hasNote),
  (5, .ifCond .eq 11, 3, 0, 0, 0, [16], none),
  (8, .aload_n 0, 1, 0, 0, 0, [], none),
  (9, .iload_n 2, 1, 0, 0, 0, [], none),
  (10, .invokevirtual 151, 3, 0, 0, 0, [], some mX8_hasNote),
  (13, .ifCond .ne 9, 3, 0, 0, 0, [22], none),
  (16, .aload_n 0, 1, 0, 0, 0, [], none),
  (17, .iconst 1, 1, 0, 0, 0, [], none),
  (18, .invokevirtual 101, 3, 0, 0, 0, [], some mX8_refuse),
  (21, .ireturn, 1, 0, 0, 0, [], none),
  (22, .aload_n 0, 1, 0, 0, 0, [], none),
  (23, .aload_n 0, 1, 0, 0, 0, [], none),
  (24, .invokevirtual 171, 3, 0, 0, 0, [], some mX8_freshTree),
  (27, .iload_n 1, 1, 0, 0, 0, [], none),
  (28, .iload_n 2, 1, 0, 0, 0, [], none),
  (29, .invokevirtual 294, 3, 0, 0, 0, [], some mX7_headOverBoth),
  (32, .invokevirtual 124, 3, 0, 0, 0, [], some mX8_grant),
  (35, .ireturn, 1, 0, 0, 0, [], none)]
set_option maxRecDepth 100000 in
theorem kX8_over : ab_def_ok mX8_over rX8_over := ⟨ab_mok_of 937 101 935 936 (by decide +kernel), [0, 0, 652, 0, 0, 0, 652, 0, 0, 0, 455, 0, 0, 0, 656, 0, 0, 938, 620, 0], by decide +kernel⟩
set_option maxRecDepth 100000 in
theorem vX8_over_0 {x : ab_Cx} {d mc ms : Nat} {Post : Option ab_V → List ab_Ob → Prop} (hx : ab_At x mX8_over d mc ms Post) (a1 a2 : Int) (w0 w1 w2 w3 w4 w5 w6 w7 w8 w9 w10 w11 w12 w13 w14 w15 : ab_Ob) (kc ks : Nat)
    (h : (∃ Q1 : Option ab_V → List ab_Ob → Prop, ab_Ct d 0 0 mX8_hasNote [ab_O 0, ab_I a1] [w0, w1, w2, w3, w4, w5, w6, w7, w8, w9, w10, w11, w12, w13, w14, w15] Q1 ∧ (∀ r2 : Int, Q1 (some (ab_I r2)) [w0, w1, w2, w3, w4, w5, w6, w7, w8, w9, w10, w11, w12, w13, w14, w15] → ((r2 = 0 → (∃ Q3 : Option ab_V → List ab_Ob → Prop, ab_Ct d 0 0 mX8_refuse [ab_O 0, ab_I 1] [w0, w1, w2, w3, w4, w5, w6, w7, w8, w9, w10, w11, w12, w13, w14, w15] Q3 ∧ (∀ r4 : Int, ∀ v5 : ab_Ob, Q3 (some (ab_I r4)) [v5, w1, w2, w3, w4, w5, w6, w7, w8, w9, w10, w11, w12, w13, w14, w15] → Post (some (ab_I r4)) [v5, w1, w2, w3, w4, w5, w6, w7, w8, w9, w10, w11, w12, w13, w14, w15]))) ∧ (¬ r2 = 0 → (∃ Q6 : Option ab_V → List ab_Ob → Prop, ab_Ct d 0 0 mX8_hasNote [ab_O 0, ab_I a2] [w0, w1, w2, w3, w4, w5, w6, w7, w8, w9, w10, w11, w12, w13, w14, w15] Q6 ∧ (∀ r7 : Int, Q6 (some (ab_I r7)) [w0, w1, w2, w3, w4, w5, w6, w7, w8, w9, w10, w11, w12, w13, w14, w15] → ((¬ r7 = 0 → (∃ mc8 ms9 : Nat, (kc + mc8 ≤ mc ∧ ks + ms9 ≤ ms) ∧ ∃ Q10 : Option ab_V → List ab_Ob → Prop, ab_Ct d mc8 ms9 mX8_freshTree [ab_O 0] [w0, w1, w2, w3, w4, w5, w6, w7, w8, w9, w10, w11, w12, w13, w14, w15] Q10 ∧ (∀ v11 : ab_Ob, ∀ v12 : ab_Ob, ∀ v13 : ab_Ob, Q10 (some (ab_O 7)) [v11, w1, w2, w3, w4, v12, w6, v13, w8, w9, w10, w11, w12, w13, w14, w15] → (∃ Q14 : Option ab_V → List ab_Ob → Prop, ab_Ct d 0 0 mX7_headOverBoth [ab_O 0, ab_I a1, ab_I a2] [v13] Q14 ∧ (∀ r15 : Int, Q14 (some (ab_I r15)) [v13] → (∃ Q16 : Option ab_V → List ab_Ob → Prop, ab_Ct d 0 0 mX8_grant [ab_O 0, ab_I r15] [v11, w1, w2, w3, w4, v12, w6, v13, w8, w9, w10, w11, w12, w13, w14, w15] Q16 ∧ (∀ r17 : Int, ∀ v18 : ab_Ob, Q16 (some (ab_I r17)) [v18, w1, w2, w3, w4, v12, w6, v13, w8, w9, w10, w11, w12, w13, w14, w15] → Post (some (ab_I r17)) [v18, w1, w2, w3, w4, v12, w6, v13, w8, w9, w10, w11, w12, w13, w14, w15]))))))) ∧ (r7 = 0 → (∃ Q19 : Option ab_V → List ab_Ob → Prop, ab_Ct d 0 0 mX8_refuse [ab_O 0, ab_I 1] [w0, w1, w2, w3, w4, w5, w6, w7, w8, w9, w10, w11, w12, w13, w14, w15] Q19 ∧ (∀ r20 : Int, ∀ v21 : ab_Ob, Q19 (some (ab_I r20)) [v21, w1, w2, w3, w4, w5, w6, w7, w8, w9, w10, w11, w12, w13, w14, w15] → Post (some (ab_I r20)) [v21, w1, w2, w3, w4, w5, w6, w7, w8, w9, w10, w11, w12, w13, w14, w15]))))))))))) :
    ab_J x 0 [some (ab_O 0), some (ab_I a1), some (ab_I a2)] [] [w0, w1, w2, w3, w4, w5, w6, w7, w8, w9, w10, w11, w12, w13, w14, w15] kc ks := ab_go hx kX8_over.2 20 [] 0 h
def mX8_under : ab_M := ((yX8_under, cX8_under, 2, (some .int)), ([8, 4, 5, 5, 0, 1, 2, 7, 6, 1, 7, 7, 7, 7, 3, 3], [(0, 0), (0, 1), (0, 2), (0, 3), (0, 4), (0, 5), (0, 6), (0, 7), (0, 8), (0, 9), (0, 10), (0, 11), (0, 12), (0, 13), (0, 14), (0, 15)], [true, false, false, false, false, true, false, true, false, false, false, false, false, false, false, false], true, true, 0), (false, 8, 1))
def rX8_under : List ab_R := [(0, .aload_n 0, 1, 0, 0, 0, [], none),
  (1, .iload_n 1, 1, 0, 0, 0, [], none),
  (2, .invokevirtual 151, 3, 0, 0, 0, [], some mX8_hasNote),
  (5, .ifCond .eq 18, 3, 0, 0, 0, [23], none),
  (8, .aload_n 0, 1, 0, 0, 0, [], none),
  (9, .aload_n 0, 1, 0, 0, 0, [], none),
  (10, .invokevirtual 171, 3, 0, 0, 0, [], some mX8_freshTree),
  (13, .iload_n 1, 1, 0, 0, 0, [], none),
  (14, .invokevirtual 297, 3, 0, 0, 0, [], some mX7_notesUnder),
  (17, .invokevirtual 124, 3, 0, 0, 0, [], some mX8_grant),
  (20, .goto 8, 3, 0, 0, 0, [28], none),
  (23, .aload_n 0, 1, 0, 0, 0, [], none),
  (24, .iconst 1, 1, 0, 0, 0, [], none),
  (25, .invokevirtual 101, 3, 0, 0, 0, [], some mX8_refuse),
  (28, .ireturn, 1, 0, 0, 0, [], none)]
set_option maxRecDepth 100000 in
theorem kX8_under : ab_def_ok mX8_under rX8_under := ⟨ab_mok_of 946 101 944 945 (by decide +kernel), [0, 0, 652, 0, 0, 0, 656, 0, 947, 620, 0, 0, 0, 455, 0], by decide +kernel⟩
set_option maxRecDepth 100000 in
theorem vX8_under_0 {x : ab_Cx} {d mc ms : Nat} {Post : Option ab_V → List ab_Ob → Prop} (hx : ab_At x mX8_under d mc ms Post) (a1 : Int) (w0 w1 w2 w3 w4 w5 w6 w7 w8 w9 w10 w11 w12 w13 w14 w15 : ab_Ob) (kc ks : Nat)
    (h : (∃ Q1 : Option ab_V → List ab_Ob → Prop, ab_Ct d 0 0 mX8_hasNote [ab_O 0, ab_I a1] [w0, w1, w2, w3, w4, w5, w6, w7, w8, w9, w10, w11, w12, w13, w14, w15] Q1 ∧ (∀ r2 : Int, Q1 (some (ab_I r2)) [w0, w1, w2, w3, w4, w5, w6, w7, w8, w9, w10, w11, w12, w13, w14, w15] → ((r2 = 0 → (∃ Q3 : Option ab_V → List ab_Ob → Prop, ab_Ct d 0 0 mX8_refuse [ab_O 0, ab_I 1] [w0, w1, w2, w3, w4, w5, w6, w7, w8, w9, w10, w11, w12, w13, w14, w15] Q3 ∧ (∀ r4 : Int, ∀ v5 : ab_Ob, Q3 (some (ab_I r4)) [v5, w1, w2, w3, w4, w5, w6, w7, w8, w9, w10, w11, w12, w13, w14, w15] → Post (some (ab_I r4)) [v5, w1, w2, w3, w4, w5, w6, w7, w8, w9, w10, w11, w12, w13, w14, w15]))) ∧ (¬ r2 = 0 → (∃ mc6 ms7 : Nat, (kc + mc6 ≤ mc ∧ ks + ms7 ≤ ms) ∧ ∃ Q8 : Option ab_V → List ab_Ob → Prop, ab_Ct d mc6 ms7 mX8_freshTree [ab_O 0] [w0, w1, w2, w3, w4, w5, w6, w7, w8, w9, w10, w11, w12, w13, w14, w15] Q8 ∧ (∀ v9 : ab_Ob, ∀ v10 : ab_Ob, ∀ v11 : ab_Ob, Q8 (some (ab_O 7)) [v9, w1, w2, w3, w4, v10, w6, v11, w8, w9, w10, w11, w12, w13, w14, w15] → (∃ Q12 : Option ab_V → List ab_Ob → Prop, ab_Ct d 0 0 mX7_notesUnder [ab_O 0, ab_I a1] [v11] Q12 ∧ (∀ r13 : Int, Q12 (some (ab_I r13)) [v11] → (∃ Q14 : Option ab_V → List ab_Ob → Prop, ab_Ct d 0 0 mX8_grant [ab_O 0, ab_I r13] [v9, w1, w2, w3, w4, v10, w6, v11, w8, w9, w10, w11, w12, w13, w14, w15] Q14 ∧ (∀ r15 : Int, ∀ v16 : ab_Ob, Q14 (some (ab_I r15)) [v16, w1, w2, w3, w4, v10, w6, v11, w8, w9, w10, w11, w12, w13, w14, w15] → Post (some (ab_I r15)) [v16, w1, w2, w3, w4, v10, w6, v11, w8, w9, w10, w11, w12, w13, w14, w15]))))))))))) :
    ab_J x 0 [some (ab_O 0), some (ab_I a1)] [] [w0, w1, w2, w3, w4, w5, w6, w7, w8, w9, w10, w11, w12, w13, w14, w15] kc ks := ab_go hx kX8_under.2 16 [] 0 h
def mX8_firm : ab_M := ((yX8_firm, cX8_firm, 3, (some .int)), ([8, 4, 5, 5, 0, 1, 2, 7, 6, 1, 7, 7, 7, 7, 3, 3], [(0, 0), (0, 1), (0, 2), (0, 3), (0, 4), (0, 5), (0, 6), (0, 7), (0, 8), (0, 9), (0, 10), (0, 11), (0, 12), (0, 13), (0, 14), (0, 15)], [true, false, false, true, false, false, false, false, true, true, true, false, false, false, false, false], true, true, 0), (false, 8, 2))
def rX8_firm : List ab_R := [(0, .aload_n 0, 1, 0, 0, 0, [], none),
  (1, .iload_n 1, 1, 0, 0, 0, [], none),
  (2, .invokevirtual 178, 3, 0, 0, 0, [], some mX8_hasRule),
  (5, .ifCond .ne 9, 3, 0, 0, 0, [14], none),
  (8, .aload_n 0, 1, 0, 0, 0, [], none),
  (9, .iconst 1, 1, 0, 0, 0, [], none),
  (10, .invokevirtual 101, 3, 0, 0, 0, [], some mX8_refuse),
  (13, .ireturn, 1, 0, 0, 0, [], none),
  (14, .aload_n 0, 1, 0, 0, 0, [], none),
  (15, .iload_n 2, 1, 0, 0, 0, [], none),
  (16, .ifCond .eq 18, 3, 0, 0, 0, [34], none),
  (19, .aload_n 0, 1, 0, 0, 0, [], none),
  (20, .getfield 68, 3, 8, 10, 0, [], none),
  (23, .aload_n 0, 1, 0, 0, 0, [], none),
  (24, .getfield 23, 3, 8, 2, 0, [], none),
  (27, .iload_n 1, 1, 0, 0, 0, [], none),
  (28, .invokevirtual 300, 3, 0, 0, 0, [], some mX6_firmUpTo),
  (31, .goto 15, 3, 0, 0, 0, [46], none),
  (34, .aload_n 0, 1, 0, 0, 0, [], none),
  (35, .getfield 68, 3, 8, 10, 0, [], none),
  (38, .aload_n 0, 1, 0, 0, 0, [], none),
  (39, .getfield 23, 3, 8, 2, 0, [], none),
  (42, .iload_n 1, 1, 0, 0, 0, [], none),
  (43, .invokevirtual 303, 3, 0, 0, 0, [], some mX6_firmDownTo),
  (46, .invokevirtual 124, 3, 0, 0, 0, [], some mX8_grant),
  (49, .ireturn, 1, 0, 0, 0, [], none)]
set_option maxRecDepth 100000 in
theorem kX8_firm : ab_def_ok mX8_firm rX8_firm := ⟨ab_mok_of 956 101 954 955 (by decide +kernel), [0, 0, 743, 0, 0, 0, 455, 0, 0, 0, 0, 0, 401, 0, 393, 0, 957, 0, 0, 401, 0, 393, 0, 974, 620, 0], by decide +kernel⟩
set_option maxRecDepth 100000 in
theorem vX8_firm_0 {x : ab_Cx} {d mc ms : Nat} {Post : Option ab_V → List ab_Ob → Prop} (hx : ab_At x mX8_firm d mc ms Post) (a1 a2 : Int) (w0 w1 w2 w3 w4 w5 w6 w7 w8 w9 w10 w11 w12 w13 w14 w15 : ab_Ob) (kc ks : Nat)
    (h : (∃ Q1 : Option ab_V → List ab_Ob → Prop, ab_Ct d 0 0 mX8_hasRule [ab_O 0, ab_I a1] [w0, w1, w2, w3, w4, w5, w6, w7, w8, w9, w10, w11, w12, w13, w14, w15] Q1 ∧ (∀ r2 : Int, Q1 (some (ab_I r2)) [w0, w1, w2, w3, w4, w5, w6, w7, w8, w9, w10, w11, w12, w13, w14, w15] → ((¬ r2 = 0 → ((a2 = 0 → (∃ mc3 ms4 : Nat, (kc + mc3 ≤ mc ∧ ks + ms4 ≤ ms) ∧ ∃ Q5 : Option ab_V → List ab_Ob → Prop, ab_Ct d mc3 ms4 mX6_firmDownTo [ab_O 0, ab_O 3, ab_I a1] [w8, w9, w10, w3] Q5 ∧ (∀ r6 : Int, ∀ v7 : ab_Ob, ∀ v8 : ab_Ob, ∀ v9 : ab_Ob, ∀ v10 : ab_Ob, Q5 (some (ab_I r6)) [v7, v8, v9, v10] → (∃ Q11 : Option ab_V → List ab_Ob → Prop, ab_Ct d 0 0 mX8_grant [ab_O 0, ab_I r6] [w0, w1, w2, v10, w4, w5, w6, w7, v7, v8, v9, w11, w12, w13, w14, w15] Q11 ∧ (∀ r12 : Int, ∀ v13 : ab_Ob, Q11 (some (ab_I r12)) [v13, w1, w2, v10, w4, w5, w6, w7, v7, v8, v9, w11, w12, w13, w14, w15] → Post (some (ab_I r12)) [v13, w1, w2, v10, w4, w5, w6, w7, v7, v8, v9, w11, w12, w13, w14, w15]))))) ∧ (¬ a2 = 0 → (∃ mc14 ms15 : Nat, (kc + mc14 ≤ mc ∧ ks + ms15 ≤ ms) ∧ ∃ Q16 : Option ab_V → List ab_Ob → Prop, ab_Ct d mc14 ms15 mX6_firmUpTo [ab_O 0, ab_O 3, ab_I a1] [w8, w9, w10, w3] Q16 ∧ (∀ r17 : Int, ∀ v18 : ab_Ob, ∀ v19 : ab_Ob, ∀ v20 : ab_Ob, ∀ v21 : ab_Ob, Q16 (some (ab_I r17)) [v18, v19, v20, v21] → (∃ Q22 : Option ab_V → List ab_Ob → Prop, ab_Ct d 0 0 mX8_grant [ab_O 0, ab_I r17] [w0, w1, w2, v21, w4, w5, w6, w7, v18, v19, v20, w11, w12, w13, w14, w15] Q22 ∧ (∀ r23 : Int, ∀ v24 : ab_Ob, Q22 (some (ab_I r23)) [v24, w1, w2, v21, w4, w5, w6, w7, v18, v19, v20, w11, w12, w13, w14, w15] → Post (some (ab_I r23)) [v24, w1, w2, v21, w4, w5, w6, w7, v18, v19, v20, w11, w12, w13, w14, w15]))))))) ∧ (r2 = 0 → (∃ Q25 : Option ab_V → List ab_Ob → Prop, ab_Ct d 0 0 mX8_refuse [ab_O 0, ab_I 1] [w0, w1, w2, w3, w4, w5, w6, w7, w8, w9, w10, w11, w12, w13, w14, w15] Q25 ∧ (∀ r26 : Int, ∀ v27 : ab_Ob, Q25 (some (ab_I r26)) [v27, w1, w2, w3, w4, w5, w6, w7, w8, w9, w10, w11, w12, w13, w14, w15] → Post (some (ab_I r26)) [v27, w1, w2, w3, w4, w5, w6, w7, w8, w9, w10, w11, w12, w13, w14, w15]))))))) :
    ab_J x 0 [some (ab_O 0), some (ab_I a1), some (ab_I a2)] [] [w0, w1, w2, w3, w4, w5, w6, w7, w8, w9, w10, w11, w12, w13, w14, w15] kc ks := ab_go hx kX8_firm.2 20 [] 0 h
def mX8_sways : ab_M := ((yX8_sways, cX8_sways, 3, (some .int)), ([8, 4, 5, 5, 0, 1, 2, 7, 6, 1, 7, 7, 7, 7, 3, 3], [(0, 0), (0, 1), (0, 2), (0, 3), (0, 4), (0, 5), (0, 6), (0, 7), (0, 8), (0, 9), (0, 10), (0, 11), (0, 12), (0, 13), (0, 14), (0, 15)], [true, false, false, true, false, false, false, false, true, true, true, false, false, false, false, false], true, true, 0), (false, 8, 2))
def rX8_sways : List ab_R := [(0, .aload_n 0, 1, 0, 0, 0, [], none),
  (1, .iload_n 1, 1, 0, 0, 0, [], none),
  (2, .invokevirtual 178, 3, 0, 0, 0, [], some mX8_hasRule),
  (5, .ifCond .eq 11, 3, 0, 0, 0, [16], none),
  (8, .aload_n 0, 1, 0, 0, 0, [], none),
  (9, .iload_n 2, 1, 0, 0, 0, [], none),
  (10, .invokevirtual 151, 3, 0, 0, 0, [], some mX8_hasNote),
  (13, .ifCond .ne 9, 3, 0, 0, 0, [22], none),
  (16, .aload_n 0, 1, 0, 0, 0, [], none),
  (17, .iconst 1, 1, 0, 0, 0, [], none),
  (18, .invokevirtual 101, 3, 0, 0, 0, [], some mX8_refuse),
  (21, .ireturn, 1, 0, 0, 0, [], none),
  (22, .aload_n 0, 1, 0, 0, 0, [], none),
  (23, .getfield 68, 3, 8, 10, 0, [], none),
  (26, .aload_n 0, 1, 0, 0, 0, [], none),
  (27, .getfield 23, 3, 8, 2, 0, [], none),
  (30, .iload_n 1, 1, 0, 0, 0, [], none),
  (31, .invokevirtual 306, 3, 0, 0, 0, [], some mX6_learnAll),
  (34, .aload_n 0, 1, 0, 0, 0, [], none),
  (35, .aload_n 0, 1, 0, 0, 0, [], none),
  (36, .getfield 68, 3, 8, 10, 0, [], none),
  (39, .iload_n 1, 1, 0, 0, 0, [], none),
  (40, .iload_n 2, 1, 0, 0, 0, [], none),
  (41, .invokevirtual 310, 3, 0, 0, 0, [], some mX6_leastWeightFor),
  (44, .invokevirtual 124, 3, 0, 0, 0, [], some mX8_grant),
  (47, .ireturn, 1, 0, 0, 0, [], none)]
set_option maxRecDepth 100000 in
theorem kX8_sways : ab_def_ok mX8_sways rX8_sways := ⟨ab_mok_of 981 101 979 980 (by decide +kernel), [0, 0, 743, 0, 0, 0, 652, 0, 0, 0, 455, 0, 0, 401, 0, 393, 0, 982, 0, 0, 401, 0, 0, 990, 620, 0], by decide +kernel⟩
set_option maxRecDepth 100000 in
theorem vX8_sways_0 {x : ab_Cx} {d mc ms : Nat} {Post : Option ab_V → List ab_Ob → Prop} (hx : ab_At x mX8_sways d mc ms Post) (a1 a2 : Int) (w0 w1 w2 w3 w4 w5 w6 w7 w8 w9 w10 w11 w12 w13 w14 w15 : ab_Ob) (kc ks : Nat)
    (h : (∃ Q1 : Option ab_V → List ab_Ob → Prop, ab_Ct d 0 0 mX8_hasRule [ab_O 0, ab_I a1] [w0, w1, w2, w3, w4, w5, w6, w7, w8, w9, w10, w11, w12, w13, w14, w15] Q1 ∧ (∀ r2 : Int, Q1 (some (ab_I r2)) [w0, w1, w2, w3, w4, w5, w6, w7, w8, w9, w10, w11, w12, w13, w14, w15] → ((r2 = 0 → (∃ Q3 : Option ab_V → List ab_Ob → Prop, ab_Ct d 0 0 mX8_refuse [ab_O 0, ab_I 1] [w0, w1, w2, w3, w4, w5, w6, w7, w8, w9, w10, w11, w12, w13, w14, w15] Q3 ∧ (∀ r4 : Int, ∀ v5 : ab_Ob, Q3 (some (ab_I r4)) [v5, w1, w2, w3, w4, w5, w6, w7, w8, w9, w10, w11, w12, w13, w14, w15] → Post (some (ab_I r4)) [v5, w1, w2, w3, w4, w5, w6, w7, w8, w9, w10, w11, w12, w13, w14, w15]))) ∧ (¬ r2 = 0 → (∃ Q6 : Option ab_V → List ab_Ob → Prop, ab_Ct d 0 0 mX8_hasNote [ab_O 0, ab_I a2] [w0, w1, w2, w3, w4, w5, w6, w7, w8, w9, w10, w11, w12, w13, w14, w15] Q6 ∧ (∀ r7 : Int, Q6 (some (ab_I r7)) [w0, w1, w2, w3, w4, w5, w6, w7, w8, w9, w10, w11, w12, w13, w14, w15] → ((¬ r7 = 0 → (∃ mc8 ms9 : Nat, (kc + mc8 ≤ mc ∧ ks + ms9 ≤ ms) ∧ ∃ Q10 : Option ab_V → List ab_Ob → Prop, ab_Ct d mc8 ms9 mX6_learnAll [ab_O 0, ab_O 3, ab_I a1] [w8, w9, w10, w3] Q10 ∧ (∀ v11 : ab_Ob, ∀ v12 : ab_Ob, ∀ v13 : ab_Ob, ∀ v14 : ab_Ob, Q10 none [v11, v12, v13, v14] → (∃ Q15 : Option ab_V → List ab_Ob → Prop, ab_Ct d 0 0 mX6_leastWeightFor [ab_O 0, ab_I a1, ab_I a2] [v11, v12, v13] Q15 ∧ (∀ r16 : Int, Q15 (some (ab_I r16)) [v11, v12, v13] → (∃ Q17 : Option ab_V → List ab_Ob → Prop, ab_Ct d 0 0 mX8_grant [ab_O 0, ab_I r16] [w0, w1, w2, v14, w4, w5, w6, w7, v11, v12, v13, w11, w12, w13, w14, w15] Q17 ∧ (∀ r18 : Int, ∀ v19 : ab_Ob, Q17 (some (ab_I r18)) [v19, w1, w2, v14, w4, w5, w6, w7, v11, v12, v13, w11, w12, w13, w14, w15] → Post (some (ab_I r18)) [v19, w1, w2, v14, w4, w5, w6, w7, v11, v12, v13, w11, w12, w13, w14, w15]))))))) ∧ (r7 = 0 → (∃ Q20 : Option ab_V → List ab_Ob → Prop, ab_Ct d 0 0 mX8_refuse [ab_O 0, ab_I 1] [w0, w1, w2, w3, w4, w5, w6, w7, w8, w9, w10, w11, w12, w13, w14, w15] Q20 ∧ (∀ r21 : Int, ∀ v22 : ab_Ob, Q20 (some (ab_I r21)) [v22, w1, w2, w3, w4, w5, w6, w7, w8, w9, w10, w11, w12, w13, w14, w15] → Post (some (ab_I r21)) [v22, w1, w2, w3, w4, w5, w6, w7, w8, w9, w10, w11, w12, w13, w14, w15]))))))))))) :
    ab_J x 0 [some (ab_O 0), some (ab_I a1), some (ab_I a2)] [] [w0, w1, w2, w3, w4, w5, w6, w7, w8, w9, w10, w11, w12, w13, w14, w15] kc ks := ab_go hx kX8_sways.2 26 [] 0 h
def mX8_swayed : ab_M := ((yX8_swayed, cX8_swayed, 3, (some .int)), ([8, 4, 5, 5, 0, 1, 2, 7, 6, 1, 7, 7, 7, 7, 3, 3], [(0, 0), (0, 1), (0, 2), (0, 3), (0, 4), (0, 5), (0, 6), (0, 7), (0, 8), (0, 9), (0, 10), (0, 11), (0, 12), (0, 13), (0, 14), (0, 15)], [true, false, false, true, false, false, false, false, true, true, true, false, false, false, false, false], true, true, 0), (false, 8, 2))
def rX8_swayed : List ab_R := [(0, .aload_n 0, 1, 0, 0, 0, [], none),
  (1, .iload_n 1, 1, 0, 0, 0, [], none),
  (2, .invokevirtual 178, 3, 0, 0, 0, [], some mX8_hasRule),
  (5, .ifCond .ne 9, 3, 0, 0, 0, [14], none),
  (8, .aload_n 0, 1, 0, 0, 0, [], none),
  (9, .iconst 1, 1, 0, 0, 0, [], none),
  (10, .invokevirtual 101, 3, 0, 0, 0, [], some mX8_refuse),
  (13, .ireturn, 1, 0, 0, 0, [], none),
  (14, .iload_n 2, 1, 0, 0, 0, [], none),
  (15, .ifCond .lt 9, 3, 0, 0, 0, [24], none),
  (18, .iload_n 2, 1, 0, 0, 0, [], none),
  (19, .bipush 99, 2, 0, 0, 0, [], none),
  (21, .if_icmp .le 9, 3, 0, 0, 0, [30], none),
  (24, .aload_n 0, 1, 0, 0, 0, [], none),
  (25, .iconst 2, 1, 0, 0, 0, [], none),
  (26, .invokevirtual 101, 3, 0, 0, 0, [], some mX8_refuse),
  (29, .ireturn, 1, 0, 0, 0, [], none),
  (30, .aload_n 0, 1, 0, 0, 0, [], none),
  (31, .aload_n 0, 1, 0, 0, 0, [], none),
  (32, .getfield 68, 3, 8, 10, 0, [], none),
  (35, .aload_n 0, 1, 0, 0, 0, [], none),
  (36, .getfield 23, 3, 8, 2, 0, [], none),
  (39, .iload_n 1, 1, 0, 0, 0, [], none),
  (40, .iload_n 2, 1, 0, 0, 0, [], none),
  (41, .invokevirtual 313, 3, 0, 0, 0, [], some mX6_breaksWith),
  (44, .invokevirtual 124, 3, 0, 0, 0, [], some mX8_grant),
  (47, .ireturn, 1, 0, 0, 0, [], none)]
set_option maxRecDepth 100000 in
theorem kX8_swayed : ab_def_ok mX8_swayed rX8_swayed := ⟨ab_mok_of 997 101 995 996 (by decide +kernel), [0, 0, 743, 0, 0, 0, 455, 0, 0, 0, 0, 0, 0, 0, 0, 455, 0, 0, 0, 401, 0, 393, 0, 0, 998, 620, 0], by decide +kernel⟩
set_option maxRecDepth 100000 in
theorem vX8_swayed_0 {x : ab_Cx} {d mc ms : Nat} {Post : Option ab_V → List ab_Ob → Prop} (hx : ab_At x mX8_swayed d mc ms Post) (a1 a2 : Int) (w0 w1 w2 w3 w4 w5 w6 w7 w8 w9 w10 w11 w12 w13 w14 w15 : ab_Ob) (kc ks : Nat)
    (h : (∃ Q1 : Option ab_V → List ab_Ob → Prop, ab_Ct d 0 0 mX8_hasRule [ab_O 0, ab_I a1] [w0, w1, w2, w3, w4, w5, w6, w7, w8, w9, w10, w11, w12, w13, w14, w15] Q1 ∧ (∀ r2 : Int, Q1 (some (ab_I r2)) [w0, w1, w2, w3, w4, w5, w6, w7, w8, w9, w10, w11, w12, w13, w14, w15] → ((¬ r2 = 0 → ((a2 < 0 → (∃ Q3 : Option ab_V → List ab_Ob → Prop, ab_Ct d 0 0 mX8_refuse [ab_O 0, ab_I 2] [w0, w1, w2, w3, w4, w5, w6, w7, w8, w9, w10, w11, w12, w13, w14, w15] Q3 ∧ (∀ r4 : Int, ∀ v5 : ab_Ob, Q3 (some (ab_I r4)) [v5, w1, w2, w3, w4, w5, w6, w7, w8, w9, w10, w11, w12, w13, w14, w15] → Post (some (ab_I r4)) [v5, w1, w2, w3, w4, w5, w6, w7, w8, w9, w10, w11, w12, w13, w14, w15]))) ∧ (¬ a2 < 0 → ((a2 ≤ 99 → (∃ mc6 ms7 : Nat, (kc + mc6 ≤ mc ∧ ks + ms7 ≤ ms) ∧ ∃ Q8 : Option ab_V → List ab_Ob → Prop, ab_Ct d mc6 ms7 mX6_breaksWith [ab_O 0, ab_O 3, ab_I a1, ab_I a2] [w8, w9, w10, w3] Q8 ∧ (∀ r9 : Int, ∀ v10 : ab_Ob, ∀ v11 : ab_Ob, ∀ v12 : ab_Ob, ∀ v13 : ab_Ob, Q8 (some (ab_I r9)) [v10, v11, v12, v13] → (∃ Q14 : Option ab_V → List ab_Ob → Prop, ab_Ct d 0 0 mX8_grant [ab_O 0, ab_I r9] [w0, w1, w2, v13, w4, w5, w6, w7, v10, v11, v12, w11, w12, w13, w14, w15] Q14 ∧ (∀ r15 : Int, ∀ v16 : ab_Ob, Q14 (some (ab_I r15)) [v16, w1, w2, v13, w4, w5, w6, w7, v10, v11, v12, w11, w12, w13, w14, w15] → Post (some (ab_I r15)) [v16, w1, w2, v13, w4, w5, w6, w7, v10, v11, v12, w11, w12, w13, w14, w15]))))) ∧ (¬ a2 ≤ 99 → (∃ Q17 : Option ab_V → List ab_Ob → Prop, ab_Ct d 0 0 mX8_refuse [ab_O 0, ab_I 2] [w0, w1, w2, w3, w4, w5, w6, w7, w8, w9, w10, w11, w12, w13, w14, w15] Q17 ∧ (∀ r18 : Int, ∀ v19 : ab_Ob, Q17 (some (ab_I r18)) [v19, w1, w2, w3, w4, w5, w6, w7, w8, w9, w10, w11, w12, w13, w14, w15] → Post (some (ab_I r18)) [v19, w1, w2, w3, w4, w5, w6, w7, w8, w9, w10, w11, w12, w13, w14, w15]))))))) ∧ (r2 = 0 → (∃ Q20 : Option ab_V → List ab_Ob → Prop, ab_Ct d 0 0 mX8_refuse [ab_O 0, ab_I 1] [w0, w1, w2, w3, w4, w5, w6, w7, w8, w9, w10, w11, w12, w13, w14, w15] Q20 ∧ (∀ r21 : Int, ∀ v22 : ab_Ob, Q20 (some (ab_I r21)) [v22, w1, w2, w3, w4, w5, w6, w7, w8, w9, w10, w11, w12, w13, w14, w15] → Post (some (ab_I r21)) [v22, w1, w2, w3, w4, w5, w6, w7, w8, w9, w10, w11, w12, w13, w14, w15]))))))) :
    ab_J x 0 [some (ab_O 0), some (ab_I a1), some (ab_I a2)] [] [w0, w1, w2, w3, w4, w5, w6, w7, w8, w9, w10, w11, w12, w13, w14, w15] kc ks := ab_go hx kX8_swayed.2 23 [] 0 h
def mX8_hasNotesFrom : ab_M := ((yX8_hasNotesFrom, cX8_hasNotesFrom, 3, (some .boolean)), ([8, 4, 5, 5, 0, 1, 2, 7, 6, 1, 7, 7, 7, 7, 3, 3], [(0, 0), (0, 1), (0, 2), (0, 3), (0, 4), (0, 5), (0, 6), (0, 7), (0, 8), (0, 9), (0, 10), (0, 11), (0, 12), (0, 13), (0, 14), (0, 15)], [false, false, false, false, false, false, false, false, false, false, false, false, false, false, false, false], false, false, 0), (false, 8, 2))
def rX8_hasNotesFrom : List ab_R := [(0, .iload_n 2, 1, 0, 0, 0, [], none),
  (1, .iconst 1, 1, 0, 0, 0, [], none),
  (2, .if_icmp .lt 35, 3, 0, 0, 0, [37], none),
  (5, .iload_n 2, 1, 0, 0, 0, [], none),
  (6, .aload_n 0, 1, 0, 0, 0, [], none),
  (7, .getfield 23, 3, 8, 2, 0, [], none),
  (10, .getfield 121, 3, 5, 3, 0, [], none),
  (13, .if_icmp .gt 24, 3, 0, 0, 0, [37], none),
  (16, .iload_n 1, 1, 0, 0, 0, [], none),
  (17, .ifCond .lt 20, 3, 0, 0, 0, [37], none),
  (20, .iload_n 1, 1, 0, 0, 0, [], none),
  (21, .aload_n 0, 1, 0, 0, 0, [], none),
  (22, .getfield 23, 3, 8, 2, 0, [], none),
  (25, .getfield 121, 3, 5, 3, 0, [], none),
  (28, .iload_n 2, 1, 0, 0, 0, [], none),
  (29, .isub, 1, 0, 0, 0, [], none),
  (30, .if_icmp .gt 7, 3, 0, 0, 0, [37], none),
  (33, .iconst 1, 1, 0, 0, 0, [], none),
  (34, .goto 4, 3, 0, 0, 0, [38], none),
  (37, .iconst 0, 1, 0, 0, 0, [], none),
  (38, .ireturn, 1, 0, 0, 0, [], none)]
set_option maxRecDepth 100000 in
theorem kX8_hasNotesFrom : ab_def_ok mX8_hasNotesFrom rX8_hasNotesFrom := ⟨ab_mok_of 1009 101 1008 39 (by decide +kernel), [0, 0, 0, 0, 0, 393, 150, 0, 0, 0, 0, 0, 393, 150, 0, 0, 0, 0, 0, 0, 0], by decide +kernel⟩
set_option maxRecDepth 100000 in
theorem vX8_hasNotesFrom_0 {x : ab_Cx} {d mc ms : Nat} {Post : Option ab_V → List ab_Ob → Prop} (hx : ab_At x mX8_hasNotesFrom d mc ms Post) (a1 a2 : Int) (w0 w1 w2 w3 w4 w5 w6 w7 w8 w9 w10 w11 w12 w13 w14 w15 : ab_Ob) (kc ks : Nat)
    (h : ((a2 < 1 → (((0 : Int) = 0 ∨ (0 : Int) = 1) ∧ Post (some (ab_I 0)) [w0, w1, w2, w3, w4, w5, w6, w7, w8, w9, w10, w11, w12, w13, w14, w15])) ∧ (¬ a2 < 1 → (((w3.1 3) < a2 → (((0 : Int) = 0 ∨ (0 : Int) = 1) ∧ Post (some (ab_I 0)) [w0, w1, w2, w3, w4, w5, w6, w7, w8, w9, w10, w11, w12, w13, w14, w15])) ∧ (¬ (w3.1 3) < a2 → ((a1 < 0 → (((0 : Int) = 0 ∨ (0 : Int) = 1) ∧ Post (some (ab_I 0)) [w0, w1, w2, w3, w4, w5, w6, w7, w8, w9, w10, w11, w12, w13, w14, w15])) ∧ (¬ a1 < 0 → ((-2147483648 ≤ (w3.1 3) - a2 ∧ (w3.1 3) - a2 ≤ 2147483647) ∧ ((((w3.1 3) - a2) < a1 → (((0 : Int) = 0 ∨ (0 : Int) = 1) ∧ Post (some (ab_I 0)) [w0, w1, w2, w3, w4, w5, w6, w7, w8, w9, w10, w11, w12, w13, w14, w15])) ∧ (¬ ((w3.1 3) - a2) < a1 → (((1 : Int) = 0 ∨ (1 : Int) = 1) ∧ Post (some (ab_I 1)) [w0, w1, w2, w3, w4, w5, w6, w7, w8, w9, w10, w11, w12, w13, w14, w15]))))))))))) :
    ab_J x 0 [some (ab_O 0), some (ab_I a1), some (ab_I a2)] [] [w0, w1, w2, w3, w4, w5, w6, w7, w8, w9, w10, w11, w12, w13, w14, w15] kc ks := ab_go hx kX8_hasNotesFrom.2 24 [] 0 h
def mX8_twins : ab_M := ((yX8_twins, cX8_twins, 4, (some .int)), ([8, 4, 5, 5, 0, 1, 2, 7, 6, 1, 7, 7, 7, 7, 3, 3], [(0, 0), (0, 1), (0, 2), (0, 3), (0, 4), (0, 5), (0, 6), (0, 7), (0, 8), (0, 9), (0, 10), (0, 11), (0, 12), (0, 13), (0, 14), (0, 15)], [true, false, false, false, false, false, false, false, false, false, false, false, false, false, false, false], false, false, 0), (false, 8, 3))
def rX8_twins : List ab_R := [(0, .aload_n 0, 1, 0, 0, 0, [], none),
  (1, .iload_n 1, 1, 0, 0, 0, [], none),
  (2, .iload_n 3, 1, 0, 0, 0, [], none),
  (3, .invokevirtual 317, 3, 0, 0, 0, [], some mX8_hasNotesFrom),
  (6, .ifCond .eq 12, 3, 0, 0, 0, [18], none),
  (9, .aload_n 0, 1, 0, 0, 0, [], none),
  (10, .iload_n 2, 1, 0, 0, 0, [], none),
  (11, .iload_n 3, 1, 0, 0, 0, [], none),
  (12, .invokevirtual 317, 3, 0, 0, 0, [], some mX8_hasNotesFrom),
  (15, .ifCond .ne 9, 3, 0, 0, 0, [24], none),
  (18, .aload_n 0, 1, 0, 0, 0, [], none),
  (19, .iconst 1, 1, 0, 0, 0, [], none),
  (20, .invokevirtual 101, 3, 0, 0, 0, [], some mX8_refuse),
  (23, .ireturn, 1, 0, 0, 0, [], none),
  (24, .aload_n 0, 1, 0, 0, 0, [], none),
  (25, .aload_n 0, 1, 0, 0, 0, [], none),
  (26, .getfield 23, 3, 8, 2, 0, [], none),
  (29, .iload_n 1, 1, 0, 0, 0, [], none),
  (30, .iload_n 2, 1, 0, 0, 0, [], none),
  (31, .iload_n 3, 1, 0, 0, 0, [], none),
  (32, .invokevirtual 320, 3, 0, 0, 0, [], some mX5_areTwins),
  (35, .ifCond .eq 7, 3, 0, 0, 0, [42], none),
  (38, .iconst 1, 1, 0, 0, 0, [], none),
  (39, .goto 4, 3, 0, 0, 0, [43], none),
  (42, .iconst 0, 1, 0, 0, 0, [], none),
  (43, .invokevirtual 124, 3, 0, 0, 0, [], some mX8_grant),
  (46, .ireturn, 1, 0, 0, 0, [], none)]
set_option maxRecDepth 100000 in
theorem kX8_twins : ab_def_ok mX8_twins rX8_twins := ⟨ab_mok_of 1005 101 1003 1004 (by decide +kernel), [0, 0, 0, 1006, 0, 0, 0, 0, 1006, 0, 0, 0, 455, 0, 0, 0, 393, 0, 0, 0, 1010, 0, 0, 0, 0, 620, 0], by decide +kernel⟩
set_option maxRecDepth 100000 in
theorem vX8_twins_0 {x : ab_Cx} {d mc ms : Nat} {Post : Option ab_V → List ab_Ob → Prop} (hx : ab_At x mX8_twins d mc ms Post) (a1 a2 a3 : Int) (w0 w1 w2 w3 w4 w5 w6 w7 w8 w9 w10 w11 w12 w13 w14 w15 : ab_Ob) (kc ks : Nat)
    (h : (∃ Q1 : Option ab_V → List ab_Ob → Prop, ab_Ct d 0 0 mX8_hasNotesFrom [ab_O 0, ab_I a1, ab_I a3] [w0, w1, w2, w3, w4, w5, w6, w7, w8, w9, w10, w11, w12, w13, w14, w15] Q1 ∧ (∀ r2 : Int, Q1 (some (ab_I r2)) [w0, w1, w2, w3, w4, w5, w6, w7, w8, w9, w10, w11, w12, w13, w14, w15] → ((r2 = 0 → (∃ Q3 : Option ab_V → List ab_Ob → Prop, ab_Ct d 0 0 mX8_refuse [ab_O 0, ab_I 1] [w0, w1, w2, w3, w4, w5, w6, w7, w8, w9, w10, w11, w12, w13, w14, w15] Q3 ∧ (∀ r4 : Int, ∀ v5 : ab_Ob, Q3 (some (ab_I r4)) [v5, w1, w2, w3, w4, w5, w6, w7, w8, w9, w10, w11, w12, w13, w14, w15] → Post (some (ab_I r4)) [v5, w1, w2, w3, w4, w5, w6, w7, w8, w9, w10, w11, w12, w13, w14, w15]))) ∧ (¬ r2 = 0 → (∃ Q6 : Option ab_V → List ab_Ob → Prop, ab_Ct d 0 0 mX8_hasNotesFrom [ab_O 0, ab_I a2, ab_I a3] [w0, w1, w2, w3, w4, w5, w6, w7, w8, w9, w10, w11, w12, w13, w14, w15] Q6 ∧ (∀ r7 : Int, Q6 (some (ab_I r7)) [w0, w1, w2, w3, w4, w5, w6, w7, w8, w9, w10, w11, w12, w13, w14, w15] → ((¬ r7 = 0 → (∃ Q8 : Option ab_V → List ab_Ob → Prop, ab_Ct d 0 0 mX5_areTwins [ab_O 0, ab_I a1, ab_I a2, ab_I a3] [w3] Q8 ∧ (∀ r9 : Int, Q8 (some (ab_I r9)) [w3] → ((r9 = 0 → (∃ Q10 : Option ab_V → List ab_Ob → Prop, ab_Ct d 0 0 mX8_grant [ab_O 0, ab_I 0] [w0, w1, w2, w3, w4, w5, w6, w7, w8, w9, w10, w11, w12, w13, w14, w15] Q10 ∧ (∀ r11 : Int, ∀ v12 : ab_Ob, Q10 (some (ab_I r11)) [v12, w1, w2, w3, w4, w5, w6, w7, w8, w9, w10, w11, w12, w13, w14, w15] → Post (some (ab_I r11)) [v12, w1, w2, w3, w4, w5, w6, w7, w8, w9, w10, w11, w12, w13, w14, w15]))) ∧ (¬ r9 = 0 → (∃ Q13 : Option ab_V → List ab_Ob → Prop, ab_Ct d 0 0 mX8_grant [ab_O 0, ab_I 1] [w0, w1, w2, w3, w4, w5, w6, w7, w8, w9, w10, w11, w12, w13, w14, w15] Q13 ∧ (∀ r14 : Int, ∀ v15 : ab_Ob, Q13 (some (ab_I r14)) [v15, w1, w2, w3, w4, w5, w6, w7, w8, w9, w10, w11, w12, w13, w14, w15] → Post (some (ab_I r14)) [v15, w1, w2, w3, w4, w5, w6, w7, w8, w9, w10, w11, w12, w13, w14, w15]))))))) ∧ (r7 = 0 → (∃ Q16 : Option ab_V → List ab_Ob → Prop, ab_Ct d 0 0 mX8_refuse [ab_O 0, ab_I 1] [w0, w1, w2, w3, w4, w5, w6, w7, w8, w9, w10, w11, w12, w13, w14, w15] Q16 ∧ (∀ r17 : Int, ∀ v18 : ab_Ob, Q16 (some (ab_I r17)) [v18, w1, w2, w3, w4, w5, w6, w7, w8, w9, w10, w11, w12, w13, w14, w15] → Post (some (ab_I r17)) [v18, w1, w2, w3, w4, w5, w6, w7, w8, w9, w10, w11, w12, w13, w14, w15]))))))))))) :
    ab_J x 0 [some (ab_O 0), some (ab_I a1), some (ab_I a2), some (ab_I a3)] [] [w0, w1, w2, w3, w4, w5, w6, w7, w8, w9, w10, w11, w12, w13, w14, w15] kc ks := ab_go hx kX8_twins.2 26 [] 0 h
def mX8_twin : ab_M := ((yX8_twin, cX8_twin, 5, (some .int)), ([8, 4, 5, 5, 0, 1, 2, 7, 6, 1, 7, 7, 7, 7, 3, 3], [(0, 0), (0, 1), (0, 2), (0, 3), (0, 4), (0, 5), (0, 6), (0, 7), (0, 8), (0, 9), (0, 10), (0, 11), (0, 12), (0, 13), (0, 14), (0, 15)], [true, false, false, false, false, false, false, false, false, false, false, false, false, false, false, false], false, false, 0), (false, 8, 1))
def rX8_twin : List ab_R := [(0, .aload_n 0, 1, 0, 0, 0, [], none),
  (1, .invokevirtual 130, 3, 0, 0, 0, [], some mX8_hasPiece),
  (4, .ifCond .eq 12, 3, 0, 0, 0, [16], none),
  (7, .iload_n 1, 1, 0, 0, 0, [], none),
  (8, .ifCond .lt 8, 3, 0, 0, 0, [16], none),
  (11, .iload_n 1, 1, 0, 0, 0, [], none),
  (12, .iconst 2, 1, 0, 0, 0, [], none),
  (13, .if_icmp .le 9, 3, 0, 0, 0, [22], none),
  (16, .aload_n 0, 1, 0, 0, 0, [], none),
  (17, .iconst 1, 1, 0, 0, 0, [], none),
  (18, .invokevirtual 101, 3, 0, 0, 0, [], some mX8_refuse),
  (21, .ireturn, 1, 0, 0, 0, [], none),
  (22, .aload_n 0, 1, 0, 0, 0, [], none),
  (23, .getfield 23, 3, 8, 2, 0, [], none),
  (26, .getfield 121, 3, 5, 3, 0, [], none),
  (29, .iconst 2, 1, 0, 0, 0, [], none),
  (30, .idiv, 1, 0, 0, 0, [], none),
  (31, .istore_n 2, 1, 0, 0, 0, [], none),
  (32, .iload_n 2, 1, 0, 0, 0, [], none),
  (33, .iconst 1, 1, 0, 0, 0, [], none),
  (34, .if_icmp .lt 73, 3, 0, 0, 0, [107], none),
  (37, .iconst 0, 1, 0, 0, 0, [], none),
  (38, .istore_n 3, 1, 0, 0, 0, [], none),
  (39, .iload_n 3, 1, 0, 0, 0, [], none),
  (40, .iconst 2, 1, 0, 0, 0, [], none),
  (41, .iload_n 2, 1, 0, 0, 0, [], none),
  (42, .imul, 1, 0, 0, 0, [], none),
  (43, .iadd, 1, 0, 0, 0, [], none),
  (44, .aload_n 0, 1, 0, 0, 0, [], none),
  (45, .getfield 23, 3, 8, 2, 0, [], none),
  (48, .getfield 121, 3, 5, 3, 0, [], none),
  (51, .if_icmp .gt 50, 3, 0, 0, 0, [101], none),
  (54, .aload_n 0, 1, 0, 0, 0, [], none),
  (55, .getfield 23, 3, 8, 2, 0, [], none),
  (58, .iload_n 3, 1, 0, 0, 0, [], none),
  (59, .iload_n 2, 1, 0, 0, 0, [], none),
  (60, .invokevirtual 324, 3, 0, 0, 0, [], some mX5_nextTwin),
  (63, .istore 4, 2, 0, 0, 0, [], none),
  (65, .iload 4, 2, 0, 0, 0, [], none),
  (67, .iconst (-1), 1, 0, 0, 0, [], none),
  (68, .if_icmp .eq 27, 3, 0, 0, 0, [95], none),
  (71, .aload_n 0, 1, 0, 0, 0, [], none),
  (72, .iload_n 1, 1, 0, 0, 0, [], none),
  (73, .ifCond .ne 7, 3, 0, 0, 0, [80], none),
  (76, .iload_n 2, 1, 0, 0, 0, [], none),
  (77, .goto 14, 3, 0, 0, 0, [91], none),
  (80, .iload_n 1, 1, 0, 0, 0, [], none),
  (81, .iconst 1, 1, 0, 0, 0, [], none),
  (82, .if_icmp .ne 7, 3, 0, 0, 0, [89], none),
  (85, .iload_n 3, 1, 0, 0, 0, [], none),
  (86, .goto 5, 3, 0, 0, 0, [91], none),
  (89, .iload 4, 2, 0, 0, 0, [], none),
  (91, .invokevirtual 124, 3, 0, 0, 0, [], some mX8_grant),
  (94, .ireturn, 1, 0, 0, 0, [], none),
  (95, .iinc 3 1, 3, 0, 0, 0, [], none),
  (98, .goto (-59), 3, 0, 0, 0, [39], none),
  (101, .iinc 2 (-1), 3, 0, 0, 0, [], none),
  (104, .goto (-72), 3, 0, 0, 0, [32], none),
  (107, .aload_n 0, 1, 0, 0, 0, [], none),
  (108, .iload_n 1, 1, 0, 0, 0, [], none),
  (109, .ifCond .ne 7, 3, 0, 0, 0, [116], none),
  (112, .iconst 0, 1, 0, 0, 0, [], none),
  (113, .goto 5, 3, 0, 0, 0, [118], none),
  (116, .bipush (-2), 2, 0, 0, 0, [], none),
  (118, .invokevirtual 124, 3, 0, 0, 0, [], some mX8_grant),
  (121, .ireturn, 1, 0, 0, 0, [], none)]
set_option maxRecDepth 100000 in
theorem kX8_twin : ab_def_ok mX8_twin rX8_twin := ⟨ab_mok_of 1018 101 1016 1017 (by decide +kernel), [0, 636, 0, 0, 0, 0, 0, 0, 0, 0, 455, 0, 0, 393, 150, 0, 0, 0, 0, 0, 0, 0, 0, 0, 0, 0, 0, 0, 0, 393, 150, 0, 0, 393, 0, 0, 1019, 0, 0, 0, 0, 0, 0, 0, 0, 0, 0, 0, 0, 0, 0, 0, 620, 0, 0, 0, 0, 0, 0, 0, 0, 0, 0, 0, 620, 0], by decide +kernel⟩
set_option maxRecDepth 100000 in
theorem vX8_twin_0 {x : ab_Cx} {d mc ms : Nat} {Post : Option ab_V → List ab_Ob → Prop} (hx : ab_At x mX8_twin d mc ms Post) (a1 : Int) (w0 w1 w2 w3 w4 w5 w6 w7 w8 w9 w10 w11 w12 w13 w14 w15 : ab_Ob) (kc ks : Nat)
    (h : (∃ Q1 : Option ab_V → List ab_Ob → Prop, ab_Ct d 0 0 mX8_hasPiece [ab_O 0] [w0, w1, w2, w3, w4, w5, w6, w7, w8, w9, w10, w11, w12, w13, w14, w15] Q1 ∧ (∀ r2 : Int, Q1 (some (ab_I r2)) [w0, w1, w2, w3, w4, w5, w6, w7, w8, w9, w10, w11, w12, w13, w14, w15] → ((r2 = 0 → (∃ Q3 : Option ab_V → List ab_Ob → Prop, ab_Ct d 0 0 mX8_refuse [ab_O 0, ab_I 1] [w0, w1, w2, w3, w4, w5, w6, w7, w8, w9, w10, w11, w12, w13, w14, w15] Q3 ∧ (∀ r4 : Int, ∀ v5 : ab_Ob, Q3 (some (ab_I r4)) [v5, w1, w2, w3, w4, w5, w6, w7, w8, w9, w10, w11, w12, w13, w14, w15] → Post (some (ab_I r4)) [v5, w1, w2, w3, w4, w5, w6, w7, w8, w9, w10, w11, w12, w13, w14, w15]))) ∧ (¬ r2 = 0 → ((a1 < 0 → (∃ Q6 : Option ab_V → List ab_Ob → Prop, ab_Ct d 0 0 mX8_refuse [ab_O 0, ab_I 1] [w0, w1, w2, w3, w4, w5, w6, w7, w8, w9, w10, w11, w12, w13, w14, w15] Q6 ∧ (∀ r7 : Int, ∀ v8 : ab_Ob, Q6 (some (ab_I r7)) [v8, w1, w2, w3, w4, w5, w6, w7, w8, w9, w10, w11, w12, w13, w14, w15] → Post (some (ab_I r7)) [v8, w1, w2, w3, w4, w5, w6, w7, w8, w9, w10, w11, w12, w13, w14, w15]))) ∧ (¬ a1 < 0 → ((a1 ≤ 2 → ((¬ (2 : Int) = 0) ∧ ((-2147483648 ≤ (Int.tdiv (w3.1 3) 2) ∧ (Int.tdiv (w3.1 3) 2) ≤ 2147483647) ∧ ab_J x 32 [some (ab_O 0), some (ab_I a1), some (ab_I (Int.tdiv (w3.1 3) 2)), none, none] [] [w0, w1, w2, w3, w4, w5, w6, w7, w8, w9, w10, w11, w12, w13, w14, w15] kc ks))) ∧ (¬ a1 ≤ 2 → (∃ Q9 : Option ab_V → List ab_Ob → Prop, ab_Ct d 0 0 mX8_refuse [ab_O 0, ab_I 1] [w0, w1, w2, w3, w4, w5, w6, w7, w8, w9, w10, w11, w12, w13, w14, w15] Q9 ∧ (∀ r10 : Int, ∀ v11 : ab_Ob, Q9 (some (ab_I r10)) [v11, w1, w2, w3, w4, w5, w6, w7, w8, w9, w10, w11, w12, w13, w14, w15] → Post (some (ab_I r10)) [v11, w1, w2, w3, w4, w5, w6, w7, w8, w9, w10, w11, w12, w13, w14, w15]))))))))))) :
    ab_J x 0 [some (ab_O 0), some (ab_I a1), none, none, none] [] [w0, w1, w2, w3, w4, w5, w6, w7, w8, w9, w10, w11, w12, w13, w14, w15] kc ks := ab_go hx kX8_twin.2 19 [(32, [true, true, true, false, false]), (39, [true, true, true, true, false])] 0 h
set_option maxRecDepth 100000 in
theorem vX8_twin_32 {x : ab_Cx} {d mc ms : Nat} {Post : Option ab_V → List ab_Ob → Prop} (hx : ab_At x mX8_twin d mc ms Post) (l1 l2 : Int) (w0 w1 w2 w3 w4 w5 w6 w7 w8 w9 w10 w11 w12 w13 w14 w15 : ab_Ob) (kc ks : Nat)
    (h : ((l2 < 1 → ((¬ l1 = 0 → (∃ Q1 : Option ab_V → List ab_Ob → Prop, ab_Ct d 0 0 mX8_grant [ab_O 0, ab_I (-2)] [w0, w1, w2, w3, w4, w5, w6, w7, w8, w9, w10, w11, w12, w13, w14, w15] Q1 ∧ (∀ r2 : Int, ∀ v3 : ab_Ob, Q1 (some (ab_I r2)) [v3, w1, w2, w3, w4, w5, w6, w7, w8, w9, w10, w11, w12, w13, w14, w15] → Post (some (ab_I r2)) [v3, w1, w2, w3, w4, w5, w6, w7, w8, w9, w10, w11, w12, w13, w14, w15]))) ∧ (l1 = 0 → (∃ Q4 : Option ab_V → List ab_Ob → Prop, ab_Ct d 0 0 mX8_grant [ab_O 0, ab_I 0] [w0, w1, w2, w3, w4, w5, w6, w7, w8, w9, w10, w11, w12, w13, w14, w15] Q4 ∧ (∀ r5 : Int, ∀ v6 : ab_Ob, Q4 (some (ab_I r5)) [v6, w1, w2, w3, w4, w5, w6, w7, w8, w9, w10, w11, w12, w13, w14, w15] → Post (some (ab_I r5)) [v6, w1, w2, w3, w4, w5, w6, w7, w8, w9, w10, w11, w12, w13, w14, w15]))))) ∧ (¬ l2 < 1 → ab_J x 39 [some (ab_O 0), some (ab_I l1), some (ab_I l2), some (ab_I 0), none] [] [w0, w1, w2, w3, w4, w5, w6, w7, w8, w9, w10, w11, w12, w13, w14, w15] kc ks))) :
    ab_J x 32 [some (ab_O 0), some (ab_I l1), some (ab_I l2), none, none] [] [w0, w1, w2, w3, w4, w5, w6, w7, w8, w9, w10, w11, w12, w13, w14, w15] kc ks := ab_go hx kX8_twin.2 14 [(32, [true, true, true, false, false]), (39, [true, true, true, true, false])] 32 h
set_option maxRecDepth 100000 in
theorem vX8_twin_39 {x : ab_Cx} {d mc ms : Nat} {Post : Option ab_V → List ab_Ob → Prop} (hx : ab_At x mX8_twin d mc ms Post) (l1 l2 l3 : Int) (w0 w1 w2 w3 w4 w5 w6 w7 w8 w9 w10 w11 w12 w13 w14 w15 : ab_Ob) (kc ks : Nat)
    (h : ((-2147483648 ≤ 2 * l2 ∧ 2 * l2 ≤ 2147483647) ∧ ((-2147483648 ≤ l3 + (2 * l2) ∧ l3 + (2 * l2) ≤ 2147483647) ∧ (((w3.1 3) < (l3 + (2 * l2)) → ((-2147483648 ≤ l2 + (-1) ∧ l2 + (-1) ≤ 2147483647) ∧ ab_J x 32 [some (ab_O 0), some (ab_I l1), some (ab_I (l2 + (-1))), none, none] [] [w0, w1, w2, w3, w4, w5, w6, w7, w8, w9, w10, w11, w12, w13, w14, w15] kc ks)) ∧ (¬ (w3.1 3) < (l3 + (2 * l2)) → (∃ Q1 : Option ab_V → List ab_Ob → Prop, ab_Ct d 0 0 mX5_nextTwin [ab_O 0, ab_I l3, ab_I l2] [w3] Q1 ∧ (∀ r2 : Int, Q1 (some (ab_I r2)) [w3] → ((r2 = (-1) → ((-2147483648 ≤ l3 + 1 ∧ l3 + 1 ≤ 2147483647) ∧ ab_J x 39 [some (ab_O 0), some (ab_I l1), some (ab_I l2), some (ab_I (l3 + 1)), none] [] [w0, w1, w2, w3, w4, w5, w6, w7, w8, w9, w10, w11, w12, w13, w14, w15] kc ks)) ∧ (¬ r2 = (-1) → ((¬ l1 = 0 → ((¬ l1 = 1 → (∃ Q3 : Option ab_V → List ab_Ob → Prop, ab_Ct d 0 0 mX8_grant [ab_O 0, ab_I r2] [w0, w1, w2, w3, w4, w5, w6, w7, w8, w9, w10, w11, w12, w13, w14, w15] Q3 ∧ (∀ r4 : Int, ∀ v5 : ab_Ob, Q3 (some (ab_I r4)) [v5, w1, w2, w3, w4, w5, w6, w7, w8, w9, w10, w11, w12, w13, w14, w15] → Post (some (ab_I r4)) [v5, w1, w2, w3, w4, w5, w6, w7, w8, w9, w10, w11, w12, w13, w14, w15]))) ∧ (l1 = 1 → (∃ Q6 : Option ab_V → List ab_Ob → Prop, ab_Ct d 0 0 mX8_grant [ab_O 0, ab_I l3] [w0, w1, w2, w3, w4, w5, w6, w7, w8, w9, w10, w11, w12, w13, w14, w15] Q6 ∧ (∀ r7 : Int, ∀ v8 : ab_Ob, Q6 (some (ab_I r7)) [v8, w1, w2, w3, w4, w5, w6, w7, w8, w9, w10, w11, w12, w13, w14, w15] → Post (some (ab_I r7)) [v8, w1, w2, w3, w4, w5, w6, w7, w8, w9, w10, w11, w12, w13, w14, w15]))))) ∧ (l1 = 0 → (∃ Q9 : Option ab_V → List ab_Ob → Prop, ab_Ct d 0 0 mX8_grant [ab_O 0, ab_I l2] [w0, w1, w2, w3, w4, w5, w6, w7, w8, w9, w10, w11, w12, w13, w14, w15] Q9 ∧ (∀ r10 : Int, ∀ v11 : ab_Ob, Q9 (some (ab_I r10)) [v11, w1, w2, w3, w4, w5, w6, w7, w8, w9, w10, w11, w12, w13, w14, w15] → Post (some (ab_I r10)) [v11, w1, w2, w3, w4, w5, w6, w7, w8, w9, w10, w11, w12, w13, w14, w15]))))))))))))) :
    ab_J x 39 [some (ab_O 0), some (ab_I l1), some (ab_I l2), some (ab_I l3), none] [] [w0, w1, w2, w3, w4, w5, w6, w7, w8, w9, w10, w11, w12, w13, w14, w15] kc ks := ab_go hx kX8_twin.2 32 [(32, [true, true, true, false, false]), (39, [true, true, true, true, false])] 39 h
def mX8_alike : ab_M := ((yX8_alike, cX8_alike, 5, (some .int)), ([8, 4, 5, 5, 0, 1, 2, 7, 6, 1, 7, 7, 7, 7, 3, 3], [(0, 0), (0, 1), (0, 2), (0, 3), (0, 4), (0, 5), (0, 6), (0, 7), (0, 8), (0, 9), (0, 10), (0, 11), (0, 12), (0, 13), (0, 14), (0, 15)], [true, false, false, false, false, true, false, false, false, false, false, false, true, true, false, false], true, true, 0), (false, 8, 3))
def rX8_alike : List ab_R := [(0, .aload_n 0, 1, 0, 0, 0, [], none),
  (1, .iload_n 1, 1, 0, 0, 0, [], none),
  (2, .iload_n 3, 1, 0, 0, 0, [], none),
  (3, .invokevirtual 317, 3, 0, 0, 0, [], some mX8_hasNotesFrom),
  (6, .ifCond .eq 12, 3, 0, 0, 0, [18], none),
  (9, .aload_n 0, 1, 0, 0, 0, [], none),
  (10, .iload_n 2, 1, 0, 0, 0, [], none),
  (11, .iload_n 3, 1, 0, 0, 0, [], none),
  (12, .invokevirtual 317, 3, 0, 0, 0, [], some mX8_hasNotesFrom),
  (15, .ifCond .ne 9, 3, 0, 0, 0, [24], none),
  (18, .aload_n 0, 1, 0, 0, 0, [], none),
  (19, .iconst 1, 1, 0, 0, 0, [], none),
  (20, .invokevirtual 101, 3, 0, 0, 0, [], some mX8_refuse),
  (23, .ireturn, 1, 0, 0, 0, [], none),
  (24, .aload_n 0, 1, 0, 0, 0, [], none),
  (25, .invokevirtual 188, 3, 0, 0, 0, [], some mX8_freshSpans),
  (28, .astore 4, 2, 0, 0, 0, [], none),
  (30, .aload_n 0, 1, 0, 0, 0, [], none),
  (31, .getfield 78, 3, 8, 13, 0, [], none),
  (34, .aload 4, 2, 0, 0, 0, [], none),
  (36, .iload_n 1, 1, 0, 0, 0, [], none),
  (37, .iload_n 1, 1, 0, 0, 0, [], none),
  (38, .iload_n 3, 1, 0, 0, 0, [], none),
  (39, .iadd, 1, 0, 0, 0, [], none),
  (40, .iconst 1, 1, 0, 0, 0, [], none),
  (41, .isub, 1, 0, 0, 0, [], none),
  (42, .invokevirtual 327, 3, 0, 0, 0, [], some mX7_build),
  (45, .aload_n 0, 1, 0, 0, 0, [], none),
  (46, .getfield 81, 3, 8, 14, 0, [], none),
  (49, .aload 4, 2, 0, 0, 0, [], none),
  (51, .iload_n 2, 1, 0, 0, 0, [], none),
  (52, .iload_n 2, 1, 0, 0, 0, [], none),
  (53, .iload_n 3, 1, 0, 0, 0, [], none),
  (54, .iadd, 1, 0, 0, 0, [], none),
  (55, .iconst 1, 1, 0, 0, 0, [], none),
  (56, .isub, 1, 0, 0, 0, [], none),
  (57, .invokevirtual 327, 3, 0, 0, 0, [], some mX7_build),
  (60, .aload_n 0, 1, 0, 0, 0, [], none),
  (61, .aload_n 0, 1, 0, 0, 0, [], none),
  (62, .getfield 78, 3, 8, 13, 0, [], none),
  (65, .aload_n 0, 1, 0, 0, 0, [], none),
  (66, .getfield 81, 3, 8, 14, 0, [], none),
  (69, .iload_n 2, 1, 0, 0, 0, [], none),
  (70, .iload_n 1, 1, 0, 0, 0, [], none),
  (71, .isub, 1, 0, 0, 0, [], none),
  (72, .invokevirtual 331, 3, 0, 0, 0, [], some mX7_isLike),
  (75, .ifCond .eq 7, 3, 0, 0, 0, [82], none),
  (78, .iconst 1, 1, 0, 0, 0, [], none),
  (79, .goto 4, 3, 0, 0, 0, [83], none),
  (82, .iconst 0, 1, 0, 0, 0, [], none),
  (83, .invokevirtual 124, 3, 0, 0, 0, [], some mX8_grant),
  (86, .ireturn, 1, 0, 0, 0, [], none)]
set_option maxRecDepth 100000 in
theorem kX8_alike : ab_def_ok mX8_alike rX8_alike := ⟨ab_mok_of 1027 101 1025 1026 (by decide +kernel), [0, 0, 0, 1006, 0, 0, 0, 0, 1006, 0, 0, 0, 455, 0, 0, 660, 0, 0, 404, 0, 0, 0, 0, 0, 0, 0, 698, 0, 405, 0, 0, 0, 0, 0, 0, 0, 698, 0, 0, 404, 0, 405, 0, 0, 0, 1028, 0, 0, 0, 0, 620, 0], by decide +kernel⟩
set_option maxRecDepth 100000 in
theorem vX8_alike_0 {x : ab_Cx} {d mc ms : Nat} {Post : Option ab_V → List ab_Ob → Prop} (hx : ab_At x mX8_alike d mc ms Post) (a1 a2 a3 : Int) (w0 w1 w2 w3 w4 w5 w6 w7 w8 w9 w10 w11 w12 w13 w14 w15 : ab_Ob) (kc ks : Nat)
    (h : (∃ Q1 : Option ab_V → List ab_Ob → Prop, ab_Ct d 0 0 mX8_hasNotesFrom [ab_O 0, ab_I a1, ab_I a3] [w0, w1, w2, w3, w4, w5, w6, w7, w8, w9, w10, w11, w12, w13, w14, w15] Q1 ∧ (∀ r2 : Int, Q1 (some (ab_I r2)) [w0, w1, w2, w3, w4, w5, w6, w7, w8, w9, w10, w11, w12, w13, w14, w15] → ((r2 = 0 → (∃ Q3 : Option ab_V → List ab_Ob → Prop, ab_Ct d 0 0 mX8_refuse [ab_O 0, ab_I 1] [w0, w1, w2, w3, w4, w5, w6, w7, w8, w9, w10, w11, w12, w13, w14, w15] Q3 ∧ (∀ r4 : Int, ∀ v5 : ab_Ob, Q3 (some (ab_I r4)) [v5, w1, w2, w3, w4, w5, w6, w7, w8, w9, w10, w11, w12, w13, w14, w15] → Post (some (ab_I r4)) [v5, w1, w2, w3, w4, w5, w6, w7, w8, w9, w10, w11, w12, w13, w14, w15]))) ∧ (¬ r2 = 0 → (∃ Q6 : Option ab_V → List ab_Ob → Prop, ab_Ct d 0 0 mX8_hasNotesFrom [ab_O 0, ab_I a2, ab_I a3] [w0, w1, w2, w3, w4, w5, w6, w7, w8, w9, w10, w11, w12, w13, w14, w15] Q6 ∧ (∀ r7 : Int, Q6 (some (ab_I r7)) [w0, w1, w2, w3, w4, w5, w6, w7, w8, w9, w10, w11, w12, w13, w14, w15] → ((¬ r7 = 0 → (∃ mc8 ms9 : Nat, (kc + mc8 ≤ mc ∧ ks + ms9 ≤ ms) ∧ ∃ Q10 : Option ab_V → List ab_Ob → Prop, ab_Ct d mc8 ms9 mX8_freshSpans [ab_O 0] [w0, w1, w2, w3, w4, w5, w6, w7, w8, w9, w10, w11, w12, w13, w14, w15] Q10 ∧ (∀ v11 : ab_Ob, ∀ v12 : ab_Ob, Q10 (some (ab_O 5)) [v11, w1, w2, w3, w4, v12, w6, w7, w8, w9, w10, w11, w12, w13, w14, w15] → ((-2147483648 ≤ a1 + a3 ∧ a1 + a3 ≤ 2147483647) ∧ ((-2147483648 ≤ (a1 + a3) - 1 ∧ (a1 + a3) - 1 ≤ 2147483647) ∧ (∃ Q13 : Option ab_V → List ab_Ob → Prop, ab_Ct d 0 0 mX7_build [ab_O 0, ab_O 1, ab_I a1, ab_I ((a1 + a3) - 1)] [w12, v12] Q13 ∧ (∀ v14 : ab_Ob, Q13 none [v14, v12] → ((-2147483648 ≤ a2 + a3 ∧ a2 + a3 ≤ 2147483647) ∧ ((-2147483648 ≤ (a2 + a3) - 1 ∧ (a2 + a3) - 1 ≤ 2147483647) ∧ (∃ Q15 : Option ab_V → List ab_Ob → Prop, ab_Ct d 0 0 mX7_build [ab_O 0, ab_O 1, ab_I a2, ab_I ((a2 + a3) - 1)] [w13, v12] Q15 ∧ (∀ v16 : ab_Ob, Q15 none [v16, v12] → ((-2147483648 ≤ a2 - a1 ∧ a2 - a1 ≤ 2147483647) ∧ (∃ Q17 : Option ab_V → List ab_Ob → Prop, ab_Ct d 0 0 mX7_isLike [ab_O 0, ab_O 1, ab_I (a2 - a1)] [v14, v16] Q17 ∧ (∀ r18 : Int, Q17 (some (ab_I r18)) [v14, v16] → ((r18 = 0 → (∃ Q19 : Option ab_V → List ab_Ob → Prop, ab_Ct d 0 0 mX8_grant [ab_O 0, ab_I 0] [v11, w1, w2, w3, w4, v12, w6, w7, w8, w9, w10, w11, v14, v16, w14, w15] Q19 ∧ (∀ r20 : Int, ∀ v21 : ab_Ob, Q19 (some (ab_I r20)) [v21, w1, w2, w3, w4, v12, w6, w7, w8, w9, w10, w11, v14, v16, w14, w15] → Post (some (ab_I r20)) [v21, w1, w2, w3, w4, v12, w6, w7, w8, w9, w10, w11, v14, v16, w14, w15]))) ∧ (¬ r18 = 0 → (∃ Q22 : Option ab_V → List ab_Ob → Prop, ab_Ct d 0 0 mX8_grant [ab_O 0, ab_I 1] [v11, w1, w2, w3, w4, v12, w6, w7, w8, w9, w10, w11, v14, v16, w14, w15] Q22 ∧ (∀ r23 : Int, ∀ v24 : ab_Ob, Q22 (some (ab_I r23)) [v24, w1, w2, w3, w4, v12, w6, w7, w8, w9, w10, w11, v14, v16, w14, w15] → Post (some (ab_I r23)) [v24, w1, w2, w3, w4, v12, w6, w7, w8, w9, w10, w11, v14, v16, w14, w15])))))))))))))))))) ∧ (r7 = 0 → (∃ Q25 : Option ab_V → List ab_Ob → Prop, ab_Ct d 0 0 mX8_refuse [ab_O 0, ab_I 1] [w0, w1, w2, w3, w4, w5, w6, w7, w8, w9, w10, w11, w12, w13, w14, w15] Q25 ∧ (∀ r26 : Int, ∀ v27 : ab_Ob, Q25 (some (ab_I r26)) [v27, w1, w2, w3, w4, w5, w6, w7, w8, w9, w10, w11, w12, w13, w14, w15] → Post (some (ab_I r26)) [v27, w1, w2, w3, w4, w5, w6, w7, w8, w9, w10, w11, w12, w13, w14, w15]))))))))))) :
    ab_J x 0 [some (ab_O 0), some (ab_I a1), some (ab_I a2), some (ab_I a3), none] [] [w0, w1, w2, w3, w4, w5, w6, w7, w8, w9, w10, w11, w12, w13, w14, w15] kc ks := ab_go hx kX8_alike.2 51 [] 0 h
def mX8_wholeBreaks : ab_M := ((yX8_wholeBreaks, cX8_wholeBreaks, 1, (some .int)), ([8, 4, 5, 5, 0, 1, 2, 7, 6, 1, 7, 7, 7, 7, 3, 3], [(0, 0), (0, 1), (0, 2), (0, 3), (0, 4), (0, 5), (0, 6), (0, 7), (0, 8), (0, 9), (0, 10), (0, 11), (0, 12), (0, 13), (0, 14), (0, 15)], [true, false, false, false, false, true, false, false, false, false, false, false, false, false, false, false], true, true, 0), (false, 8, 0))
def rX8_wholeBreaks : List ab_R := [(0, .aload_n 0, 1, 0, 0, 0, [], none),
  (1, .invokevirtual 188, 3, 0, 0, 0, [], some mX8_freshSpans),
  (4, .iconst 0, 1, 0, 0, 0, [], none),
  (5, .aload_n 0, 1, 0, 0, 0, [], none),
  (6, .getfield 23, 3, 8, 2, 0, [], none),
  (9, .getfield 121, 3, 5, 3, 0, [], none),
  (12, .iconst 1, 1, 0, 0, 0, [], none),
  (13, .isub, 1, 0, 0, 0, [], none),
  (14, .invokevirtual 192, 3, 0, 0, 0, [], some mX1_least),
  (17, .ireturn, 1, 0, 0, 0, [], none)]
set_option maxRecDepth 100000 in
theorem kX8_wholeBreaks : ab_def_ok mX8_wholeBreaks rX8_wholeBreaks := ⟨ab_mok_of 1039 101 1038 40 (by decide +kernel), [0, 660, 0, 0, 393, 150, 0, 0, 755, 0], by decide +kernel⟩
set_option maxRecDepth 100000 in
theorem vX8_wholeBreaks_0 {x : ab_Cx} {d mc ms : Nat} {Post : Option ab_V → List ab_Ob → Prop} (hx : ab_At x mX8_wholeBreaks d mc ms Post) (w0 w1 w2 w3 w4 w5 w6 w7 w8 w9 w10 w11 w12 w13 w14 w15 : ab_Ob) (kc ks : Nat)
    (h : (∃ mc1 ms2 : Nat, (kc + mc1 ≤ mc ∧ ks + ms2 ≤ ms) ∧ ∃ Q3 : Option ab_V → List ab_Ob → Prop, ab_Ct d mc1 ms2 mX8_freshSpans [ab_O 0] [w0, w1, w2, w3, w4, w5, w6, w7, w8, w9, w10, w11, w12, w13, w14, w15] Q3 ∧ (∀ v4 : ab_Ob, ∀ v5 : ab_Ob, Q3 (some (ab_O 5)) [v4, w1, w2, w3, w4, v5, w6, w7, w8, w9, w10, w11, w12, w13, w14, w15] → ((-2147483648 ≤ (w3.1 3) - 1 ∧ (w3.1 3) - 1 ≤ 2147483647) ∧ (∃ Q6 : Option ab_V → List ab_Ob → Prop, ab_Ct d 0 0 mX1_least [ab_O 0, ab_I 0, ab_I ((w3.1 3) - 1)] [v5] Q6 ∧ (∀ r7 : Int, Q6 (some (ab_I r7)) [v5] → Post (some (ab_I r7)) [v4, w1, w2, w3, w4, v5, w6, w7, w8, w9, w10, w11, w12, w13, w14, w15])))))) :
    ab_J x 0 [some (ab_O 0)] [] [w0, w1, w2, w3, w4, w5, w6, w7, w8, w9, w10, w11, w12, w13, w14, w15] kc ks := ab_go hx kX8_wholeBreaks.2 14 [] 0 h
def mX8_keep : ab_M := ((yX8_keep, cX8_keep, 1, (some .int)), ([8, 4, 5, 5, 0, 1, 2, 7, 6, 1, 7, 7, 7, 7, 3, 3], [(0, 0), (0, 1), (0, 2), (0, 3), (0, 4), (0, 5), (0, 6), (0, 7), (0, 8), (0, 9), (0, 10), (0, 11), (0, 12), (0, 13), (0, 14), (0, 15)], [true, false, false, false, false, true, false, false, false, false, false, true, false, false, false, false], true, true, 0), (false, 8, 0))
def rX8_keep : List ab_R := [(0, .aload_n 0, 1, 0, 0, 0, [], none),
  (1, .invokevirtual 130, 3, 0, 0, 0, [], some mX8_hasPiece),
  (4, .ifCond .ne 9, 3, 0, 0, 0, [13], none),
  (7, .aload_n 0, 1, 0, 0, 0, [], none),
  (8, .iconst 1, 1, 0, 0, 0, [], none),
  (9, .invokevirtual 101, 3, 0, 0, 0, [], some mX8_refuse),
  (12, .ireturn, 1, 0, 0, 0, [], none),
  (13, .aload_n 0, 1, 0, 0, 0, [], none),
  (14, .getfield 72, 3, 8, 11, 0, [], none),
  (17, .aload_n 0, 1, 0, 0, 0, [], none),
  (18, .invokevirtual 188, 3, 0, 0, 0, [], some mX8_freshSpans),
  (21, .iconst 0, 1, 0, 0, 0, [], none),
  (22, .aload_n 0, 1, 0, 0, 0, [], none),
  (23, .getfield 23, 3, 8, 2, 0, [], none),
  (26, .getfield 121, 3, 5, 3, 0, [], none),
  (29, .iconst 1, 1, 0, 0, 0, [], none),
  (30, .isub, 1, 0, 0, 0, [], none),
  (31, .invokevirtual 327, 3, 0, 0, 0, [], some mX7_build),
  (34, .aload_n 0, 1, 0, 0, 0, [], none),
  (35, .iconst 1, 1, 0, 0, 0, [], none),
  (36, .putfield 75, 3, 8, 12, 0, [], none),
  (39, .aload_n 0, 1, 0, 0, 0, [], none),
  (40, .aload_n 0, 1, 0, 0, 0, [], none),
  (41, .invokevirtual 335, 3, 0, 0, 0, [], some mX8_wholeBreaks),
  (44, .invokevirtual 124, 3, 0, 0, 0, [], some mX8_grant),
  (47, .ireturn, 1, 0, 0, 0, [], none)]
set_option maxRecDepth 100000 in
theorem kX8_keep : ab_def_ok mX8_keep rX8_keep := ⟨ab_mok_of 1035 101 1033 1034 (by decide +kernel), [0, 636, 0, 0, 0, 455, 0, 0, 402, 0, 660, 0, 0, 393, 150, 0, 0, 698, 0, 0, 403, 0, 0, 1036, 620, 0], by decide +kernel⟩
set_option maxRecDepth 100000 in
theorem vX8_keep_0 {x : ab_Cx} {d mc ms : Nat} {Post : Option ab_V → List ab_Ob → Prop} (hx : ab_At x mX8_keep d mc ms Post) (w0 w1 w2 w3 w4 w5 w6 w7 w8 w9 w10 w11 w12 w13 w14 w15 : ab_Ob) (kc ks : Nat)
    (h : (∃ Q1 : Option ab_V → List ab_Ob → Prop, ab_Ct d 0 0 mX8_hasPiece [ab_O 0] [w0, w1, w2, w3, w4, w5, w6, w7, w8, w9, w10, w11, w12, w13, w14, w15] Q1 ∧ (∀ r2 : Int, Q1 (some (ab_I r2)) [w0, w1, w2, w3, w4, w5, w6, w7, w8, w9, w10, w11, w12, w13, w14, w15] → ((¬ r2 = 0 → (∃ mc3 ms4 : Nat, (kc + mc3 ≤ mc ∧ ks + ms4 ≤ ms) ∧ ∃ Q5 : Option ab_V → List ab_Ob → Prop, ab_Ct d mc3 ms4 mX8_freshSpans [ab_O 0] [w0, w1, w2, w3, w4, w5, w6, w7, w8, w9, w10, w11, w12, w13, w14, w15] Q5 ∧ (∀ v6 : ab_Ob, ∀ v7 : ab_Ob, Q5 (some (ab_O 5)) [v6, w1, w2, w3, w4, v7, w6, w7, w8, w9, w10, w11, w12, w13, w14, w15] → ((-2147483648 ≤ (w3.1 3) - 1 ∧ (w3.1 3) - 1 ≤ 2147483647) ∧ (∃ Q8 : Option ab_V → List ab_Ob → Prop, ab_Ct d 0 0 mX7_build [ab_O 0, ab_O 1, ab_I 0, ab_I ((w3.1 3) - 1)] [w11, v7] Q8 ∧ (∀ v9 : ab_Ob, Q8 none [v9, v7] → (((1 : Int) = 0 ∨ (1 : Int) = 1) ∧ (∃ mc10 ms11 : Nat, ((kc + mc3) + mc10 ≤ mc ∧ (ks + ms4) + ms11 ≤ ms) ∧ ∃ Q12 : Option ab_V → List ab_Ob → Prop, ab_Ct d mc10 ms11 mX8_wholeBreaks [ab_O 0] [(ab_pf v6 12 1), w1, w2, w3, w4, v7, w6, w7, w8, w9, w10, v9, w12, w13, w14, w15] Q12 ∧ (∀ r13 : Int, ∀ v14 : ab_Ob, ∀ v15 : ab_Ob, Q12 (some (ab_I r13)) [v14, w1, w2, w3, w4, v15, w6, w7, w8, w9, w10, v9, w12, w13, w14, w15] → (∃ Q16 : Option ab_V → List ab_Ob → Prop, ab_Ct d 0 0 mX8_grant [ab_O 0, ab_I r13] [v14, w1, w2, w3, w4, v15, w6, w7, w8, w9, w10, v9, w12, w13, w14, w15] Q16 ∧ (∀ r17 : Int, ∀ v18 : ab_Ob, Q16 (some (ab_I r17)) [v18, w1, w2, w3, w4, v15, w6, w7, w8, w9, w10, v9, w12, w13, w14, w15] → Post (some (ab_I r17)) [v18, w1, w2, w3, w4, v15, w6, w7, w8, w9, w10, v9, w12, w13, w14, w15]))))))))))) ∧ (r2 = 0 → (∃ Q19 : Option ab_V → List ab_Ob → Prop, ab_Ct d 0 0 mX8_refuse [ab_O 0, ab_I 1] [w0, w1, w2, w3, w4, w5, w6, w7, w8, w9, w10, w11, w12, w13, w14, w15] Q19 ∧ (∀ r20 : Int, ∀ v21 : ab_Ob, Q19 (some (ab_I r20)) [v21, w1, w2, w3, w4, w5, w6, w7, w8, w9, w10, w11, w12, w13, w14, w15] → Post (some (ab_I r20)) [v21, w1, w2, w3, w4, w5, w6, w7, w8, w9, w10, w11, w12, w13, w14, w15]))))))) :
    ab_J x 0 [some (ab_O 0)] [] [w0, w1, w2, w3, w4, w5, w6, w7, w8, w9, w10, w11, w12, w13, w14, w15] kc ks := ab_go hx kX8_keep.2 26 [] 0 h
def mX8_unlike : ab_M := ((yX8_unlike, cX8_unlike, 2, (some .int)), ([8, 4, 5, 5, 0, 1, 2, 7, 6, 1, 7, 7, 7, 7, 3, 3], [(0, 0), (0, 1), (0, 2), (0, 3), (0, 4), (0, 5), (0, 6), (0, 7), (0, 8), (0, 9), (0, 10), (0, 11), (0, 12), (0, 13), (0, 14), (0, 15)], [true, false, false, false, false, true, false, true, false, false, false, false, false, false, false, false], true, true, 0), (false, 8, 1))
def rX8_unlike : List ab_R := [(0, .aload_n 0, 1, 0, 0, 0, [], none),
  (1, .getfield 75, 3, 8, 12, 0, [], none),
  (4, .ifCond .ne 9, 3, 0, 0, 0, [13], none),
  (7, .aload_n 0, 1, 0, 0, 0, [], none),
  (8, .iconst 1, 1, 0, 0, 0, [], none),
  (9, .invokevirtual 101, 3, 0, 0, 0, [], some mX8_refuse),
  (12, .ireturn, 1, 0, 0, 0, [], none),
  (13, .iload_n 1, 1, 0, 0, 0, [], none),
  (14, .tableswitch 81 0 2 #[26, 42, 58], 26, 0, 0, 0, [95, 40, 56, 72], none),
  (40, .aload_n 0, 1, 0, 0, 0, [], none),
  (41, .aload_n 0, 1, 0, 0, 0, [], none),
  (42, .invokevirtual 171, 3, 0, 0, 0, [], some mX8_freshTree),
  (45, .aload_n 0, 1, 0, 0, 0, [], none),
  (46, .getfield 72, 3, 8, 11, 0, [], none),
  (49, .invokevirtual 338, 3, 0, 0, 0, [], some mX7_spansNotIn),
  (52, .invokevirtual 124, 3, 0, 0, 0, [], some mX8_grant),
  (55, .ireturn, 1, 0, 0, 0, [], none),
  (56, .aload_n 0, 1, 0, 0, 0, [], none),
  (57, .aload_n 0, 1, 0, 0, 0, [], none),
  (58, .invokevirtual 171, 3, 0, 0, 0, [], some mX8_freshTree),
  (61, .aload_n 0, 1, 0, 0, 0, [], none),
  (62, .getfield 72, 3, 8, 11, 0, [], none),
  (65, .invokevirtual 342, 3, 0, 0, 0, [], some mX7_headsUnlike),
  (68, .invokevirtual 124, 3, 0, 0, 0, [], some mX8_grant),
  (71, .ireturn, 1, 0, 0, 0, [], none),
  (72, .aload_n 0, 1, 0, 0, 0, [], none),
  (73, .aload_n 0, 1, 0, 0, 0, [], none),
  (74, .invokevirtual 171, 3, 0, 0, 0, [], some mX8_freshTree),
  (77, .aload_n 0, 1, 0, 0, 0, [], none),
  (78, .getfield 72, 3, 8, 11, 0, [], none),
  (81, .aload_n 0, 1, 0, 0, 0, [], none),
  (82, .getfield 23, 3, 8, 2, 0, [], none),
  (85, .getfield 121, 3, 5, 3, 0, [], none),
  (88, .invokevirtual 345, 3, 0, 0, 0, [], some mX7_ranksUnlike),
  (91, .invokevirtual 124, 3, 0, 0, 0, [], some mX8_grant),
  (94, .ireturn, 1, 0, 0, 0, [], none),
  (95, .aload_n 0, 1, 0, 0, 0, [], none),
  (96, .iconst 1, 1, 0, 0, 0, [], none),
  (97, .invokevirtual 101, 3, 0, 0, 0, [], some mX8_refuse),
  (100, .ireturn, 1, 0, 0, 0, [], none)]
set_option maxRecDepth 100000 in
theorem kX8_unlike : ab_def_ok mX8_unlike rX8_unlike := ⟨ab_mok_of 1043 101 1041 1042 (by decide +kernel), [0, 403, 0, 0, 0, 455, 0, 0, 0, 0, 0, 656, 0, 402, 1044, 620, 0, 0, 0, 656, 0, 402, 1052, 620, 0, 0, 0, 656, 0, 402, 0, 393, 150, 1056, 620, 0, 0, 0, 455, 0], by decide +kernel⟩
set_option maxRecDepth 100000 in
theorem vX8_unlike_0 {x : ab_Cx} {d mc ms : Nat} {Post : Option ab_V → List ab_Ob → Prop} (hx : ab_At x mX8_unlike d mc ms Post) (a1 : Int) (w0 w1 w2 w3 w4 w5 w6 w7 w8 w9 w10 w11 w12 w13 w14 w15 : ab_Ob) (kc ks : Nat)
    (h : ((¬ (w0.1 12) = 0 → ((a1 < 0 ∨ 2 < a1 → (∃ Q34 : Option ab_V → List ab_Ob → Prop, ab_Ct d 0 0 mX8_refuse [ab_O 0, ab_I 1] [w0, w1, w2, w3, w4, w5, w6, w7, w8, w9, w10, w11, w12, w13, w14, w15] Q34 ∧ (∀ r35 : Int, ∀ v36 : ab_Ob, Q34 (some (ab_I r35)) [v36, w1, w2, w3, w4, w5, w6, w7, w8, w9, w10, w11, w12, w13, w14, w15] → Post (some (ab_I r35)) [v36, w1, w2, w3, w4, w5, w6, w7, w8, w9, w10, w11, w12, w13, w14, w15]))) ∧ ((a1 = 0 → (∃ mc23 ms24 : Nat, (kc + mc23 ≤ mc ∧ ks + ms24 ≤ ms) ∧ ∃ Q25 : Option ab_V → List ab_Ob → Prop, ab_Ct d mc23 ms24 mX8_freshTree [ab_O 0] [w0, w1, w2, w3, w4, w5, w6, w7, w8, w9, w10, w11, w12, w13, w14, w15] Q25 ∧ (∀ v26 : ab_Ob, ∀ v27 : ab_Ob, ∀ v28 : ab_Ob, Q25 (some (ab_O 7)) [v26, w1, w2, w3, w4, v27, w6, v28, w8, w9, w10, w11, w12, w13, w14, w15] → (∃ Q29 : Option ab_V → List ab_Ob → Prop, ab_Ct d 0 0 mX7_spansNotIn [ab_O 0, ab_O 1] [v28, w11] Q29 ∧ (∀ r30 : Int, Q29 (some (ab_I r30)) [v28, w11] → (∃ Q31 : Option ab_V → List ab_Ob → Prop, ab_Ct d 0 0 mX8_grant [ab_O 0, ab_I r30] [v26, w1, w2, w3, w4, v27, w6, v28, w8, w9, w10, w11, w12, w13, w14, w15] Q31 ∧ (∀ r32 : Int, ∀ v33 : ab_Ob, Q31 (some (ab_I r32)) [v33, w1, w2, w3, w4, v27, w6, v28, w8, w9, w10, w11, w12, w13, w14, w15] → Post (some (ab_I r32)) [v33, w1, w2, w3, w4, v27, w6, v28, w8, w9, w10, w11, w12, w13, w14, w15]))))))) ∧ ((a1 = 1 → (∃ mc12 ms13 : Nat, (kc + mc12 ≤ mc ∧ ks + ms13 ≤ ms) ∧ ∃ Q14 : Option ab_V → List ab_Ob → Prop, ab_Ct d mc12 ms13 mX8_freshTree [ab_O 0] [w0, w1, w2, w3, w4, w5, w6, w7, w8, w9, w10, w11, w12, w13, w14, w15] Q14 ∧ (∀ v15 : ab_Ob, ∀ v16 : ab_Ob, ∀ v17 : ab_Ob, Q14 (some (ab_O 7)) [v15, w1, w2, w3, w4, v16, w6, v17, w8, w9, w10, w11, w12, w13, w14, w15] → (∃ Q18 : Option ab_V → List ab_Ob → Prop, ab_Ct d 0 0 mX7_headsUnlike [ab_O 0, ab_O 1] [v17, w11] Q18 ∧ (∀ r19 : Int, Q18 (some (ab_I r19)) [v17, w11] → (∃ Q20 : Option ab_V → List ab_Ob → Prop, ab_Ct d 0 0 mX8_grant [ab_O 0, ab_I r19] [v15, w1, w2, w3, w4, v16, w6, v17, w8, w9, w10, w11, w12, w13, w14, w15] Q20 ∧ (∀ r21 : Int, ∀ v22 : ab_Ob, Q20 (some (ab_I r21)) [v22, w1, w2, w3, w4, v16, w6, v17, w8, w9, w10, w11, w12, w13, w14, w15] → Post (some (ab_I r21)) [v22, w1, w2, w3, w4, v16, w6, v17, w8, w9, w10, w11, w12, w13, w14, w15]))))))) ∧ ((a1 = 2 → (∃ mc1 ms2 : Nat, (kc + mc1 ≤ mc ∧ ks + ms2 ≤ ms) ∧ ∃ Q3 : Option ab_V → List ab_Ob → Prop, ab_Ct d mc1 ms2 mX8_freshTree [ab_O 0] [w0, w1, w2, w3, w4, w5, w6, w7, w8, w9, w10, w11, w12, w13, w14, w15] Q3 ∧ (∀ v4 : ab_Ob, ∀ v5 : ab_Ob, ∀ v6 : ab_Ob, Q3 (some (ab_O 7)) [v4, w1, w2, w3, w4, v5, w6, v6, w8, w9, w10, w11, w12, w13, w14, w15] → (∃ Q7 : Option ab_V → List ab_Ob → Prop, ab_Ct d 0 0 mX7_ranksUnlike [ab_O 0, ab_O 1, ab_I (w3.1 3)] [v6, w11] Q7 ∧ (∀ r8 : Int, Q7 (some (ab_I r8)) [v6, w11] → (∃ Q9 : Option ab_V → List ab_Ob → Prop, ab_Ct d 0 0 mX8_grant [ab_O 0, ab_I r8] [v4, w1, w2, w3, w4, v5, w6, v6, w8, w9, w10, w11, w12, w13, w14, w15] Q9 ∧ (∀ r10 : Int, ∀ v11 : ab_Ob, Q9 (some (ab_I r10)) [v11, w1, w2, w3, w4, v5, w6, v6, w8, w9, w10, w11, w12, w13, w14, w15] → Post (some (ab_I r10)) [v11, w1, w2, w3, w4, v5, w6, v6, w8, w9, w10, w11, w12, w13, w14, w15]))))))) ∧ True))))) ∧ ((w0.1 12) = 0 → (∃ Q37 : Option ab_V → List ab_Ob → Prop, ab_Ct d 0 0 mX8_refuse [ab_O 0, ab_I 1] [w0, w1, w2, w3, w4, w5, w6, w7, w8, w9, w10, w11, w12, w13, w14, w15] Q37 ∧ (∀ r38 : Int, ∀ v39 : ab_Ob, Q37 (some (ab_I r38)) [v39, w1, w2, w3, w4, w5, w6, w7, w8, w9, w10, w11, w12, w13, w14, w15] → Post (some (ab_I r38)) [v39, w1, w2, w3, w4, w5, w6, w7, w8, w9, w10, w11, w12, w13, w14, w15]))))) :
    ab_J x 0 [some (ab_O 0), some (ab_I a1)] [] [w0, w1, w2, w3, w4, w5, w6, w7, w8, w9, w10, w11, w12, w13, w14, w15] kc ks := ab_go hx kX8_unlike.2 20 [] 0 h
def mX8_keptBreaks : ab_M := ((yX8_keptBreaks, cX8_keptBreaks, 1, (some .int)), ([8, 4, 5, 5, 0, 1, 2, 7, 6, 1, 7, 7, 7, 7, 3, 3], [(0, 0), (0, 1), (0, 2), (0, 3), (0, 4), (0, 5), (0, 6), (0, 7), (0, 8), (0, 9), (0, 10), (0, 11), (0, 12), (0, 13), (0, 14), (0, 15)], [true, false, false, false, false, false, false, false, false, false, false, false, false, false, false, false], false, false, 0), (false, 8, 0))
def rX8_keptBreaks : List ab_R := [(0, .aload_n 0, 1, 0, 0, 0, [], none),
  (1, .getfield 75, 3, 8, 12, 0, [], none),
  (4, .ifCond .eq 21, 3, 0, 0, 0, [25], none),
  (7, .aload_n 0, 1, 0, 0, 0, [], none),
  (8, .aload_n 0, 1, 0, 0, 0, [], none),
  (9, .getfield 72, 3, 8, 11, 0, [], none),
  (12, .aload_n 0, 1, 0, 0, 0, [], none),
  (13, .getfield 23, 3, 8, 2, 0, [], none),
  (16, .invokevirtual 349, 3, 0, 0, 0, [], some mX7_breaksOfAll),
  (19, .invokevirtual 124, 3, 0, 0, 0, [], some mX8_grant),
  (22, .goto 8, 3, 0, 0, 0, [30], none),
  (25, .aload_n 0, 1, 0, 0, 0, [], none),
  (26, .iconst 1, 1, 0, 0, 0, [], none),
  (27, .invokevirtual 101, 3, 0, 0, 0, [], some mX8_refuse),
  (30, .ireturn, 1, 0, 0, 0, [], none)]
set_option maxRecDepth 100000 in
theorem kX8_keptBreaks : ab_def_ok mX8_keptBreaks rX8_keptBreaks := ⟨ab_mok_of 1064 101 1062 1063 (by decide +kernel), [0, 403, 0, 0, 0, 402, 0, 393, 1065, 620, 0, 0, 0, 455, 0], by decide +kernel⟩
set_option maxRecDepth 100000 in
theorem vX8_keptBreaks_0 {x : ab_Cx} {d mc ms : Nat} {Post : Option ab_V → List ab_Ob → Prop} (hx : ab_At x mX8_keptBreaks d mc ms Post) (w0 w1 w2 w3 w4 w5 w6 w7 w8 w9 w10 w11 w12 w13 w14 w15 : ab_Ob) (kc ks : Nat)
    (h : (((w0.1 12) = 0 → (∃ Q1 : Option ab_V → List ab_Ob → Prop, ab_Ct d 0 0 mX8_refuse [ab_O 0, ab_I 1] [w0, w1, w2, w3, w4, w5, w6, w7, w8, w9, w10, w11, w12, w13, w14, w15] Q1 ∧ (∀ r2 : Int, ∀ v3 : ab_Ob, Q1 (some (ab_I r2)) [v3, w1, w2, w3, w4, w5, w6, w7, w8, w9, w10, w11, w12, w13, w14, w15] → Post (some (ab_I r2)) [v3, w1, w2, w3, w4, w5, w6, w7, w8, w9, w10, w11, w12, w13, w14, w15]))) ∧ (¬ (w0.1 12) = 0 → (∃ Q4 : Option ab_V → List ab_Ob → Prop, ab_Ct d 0 0 mX7_breaksOfAll [ab_O 0, ab_O 1] [w11, w3] Q4 ∧ (∀ r5 : Int, Q4 (some (ab_I r5)) [w11, w3] → (∃ Q6 : Option ab_V → List ab_Ob → Prop, ab_Ct d 0 0 mX8_grant [ab_O 0, ab_I r5] [w0, w1, w2, w3, w4, w5, w6, w7, w8, w9, w10, w11, w12, w13, w14, w15] Q6 ∧ (∀ r7 : Int, ∀ v8 : ab_Ob, Q6 (some (ab_I r7)) [v8, w1, w2, w3, w4, w5, w6, w7, w8, w9, w10, w11, w12, w13, w14, w15] → Post (some (ab_I r7)) [v8, w1, w2, w3, w4, w5, w6, w7, w8, w9, w10, w11, w12, w13, w14, w15]))))))) :
    ab_J x 0 [some (ab_O 0)] [] [w0, w1, w2, w3, w4, w5, w6, w7, w8, w9, w10, w11, w12, w13, w14, w15] kc ks := ab_go hx kX8_keptBreaks.2 16 [] 0 h
def mX8_change : ab_M := ((yX8_change, cX8_change, 4, none), ([8, 4, 5, 5, 0, 1, 2, 7, 6, 1, 7, 7, 7, 7, 3, 3], [(0, 0), (0, 1), (0, 2), (0, 3), (0, 4), (0, 5), (0, 6), (0, 7), (0, 8), (0, 9), (0, 10), (0, 11), (0, 12), (0, 13), (0, 14), (0, 15)], [true, false, false, true, false, false, false, false, true, false, false, false, false, false, false, false], false, false, 0), (false, 8, 3))
def rX8_change : List ab_R := [(0, .iload_n 1, 1, 0, 0, 0, [], none),
  (1, .tableswitch 81 0 3 #[31, 44, 57, 70], 31, 0, 0, 0, [82, 32, 45, 58, 71], none),
  (32, .aload_n 0, 1, 0, 0, 0, [], none),
  (33, .getfield 23, 3, 8, 2, 0, [], none),
  (36, .getfield 155, 3, 5, 4, 0, [], none),
  (39, .iload_n 2, 1, 0, 0, 0, [], none),
  (40, .iload_n 3, 1, 0, 0, 0, [], none),
  (41, .iastore, 1, 0, 0, 0, [], none),
  (42, .goto 48, 3, 0, 0, 0, [90], none),
  (45, .aload_n 0, 1, 0, 0, 0, [], none),
  (46, .getfield 23, 3, 8, 2, 0, [], none),
  (49, .getfield 159, 3, 5, 5, 0, [], none),
  (52, .iload_n 2, 1, 0, 0, 0, [], none),
  (53, .iload_n 3, 1, 0, 0, 0, [], none),
  (54, .iastore, 1, 0, 0, 0, [], none),
  (55, .goto 35, 3, 0, 0, 0, [90], none),
  (58, .aload_n 0, 1, 0, 0, 0, [], none),
  (59, .getfield 23, 3, 8, 2, 0, [], none),
  (62, .getfield 181, 3, 5, 6, 0, [], none),
  (65, .iload_n 2, 1, 0, 0, 0, [], none),
  (66, .iload_n 3, 1, 0, 0, 0, [], none),
  (67, .iastore, 1, 0, 0, 0, [], none),
  (68, .goto 22, 3, 0, 0, 0, [90], none),
  (71, .aload_n 0, 1, 0, 0, 0, [], none),
  (72, .getfield 23, 3, 8, 2, 0, [], none),
  (75, .iload_n 3, 1, 0, 0, 0, [], none),
  (76, .putfield 140, 3, 5, 2, 0, [], none),
  (79, .goto 11, 3, 0, 0, 0, [90], none),
  (82, .aload_n 0, 1, 0, 0, 0, [], none),
  (83, .getfield 23, 3, 8, 2, 0, [], none),
  (86, .iload_n 3, 1, 0, 0, 0, [], none),
  (87, .invokevirtual 389, 3, 0, 0, 0, [], some mX5_moveAll),
  (90, .aload_n 0, 1, 0, 0, 0, [], none),
  (91, .getfield 23, 3, 8, 2, 0, [], none),
  (94, .invokevirtual 392, 3, 0, 0, 0, [], some mX5_derive),
  (97, .aload_n 0, 1, 0, 0, 0, [], none),
  (98, .invokevirtual 118, 3, 0, 0, 0, [], some mX8_renew),
  (101, .return_, 1, 0, 0, 0, [], none)]
set_option maxRecDepth 100000 in
theorem kX8_change : ab_def_ok mX8_change rX8_change := ⟨ab_mok_of 1089 101 1088 44 (by decide +kernel), [0, 0, 0, 393, 156, 0, 0, 0, 0, 0, 393, 158, 0, 0, 0, 0, 0, 393, 162, 0, 0, 0, 0, 0, 393, 0, 147, 0, 0, 393, 0, 1090, 0, 393, 1094, 0, 612, 0], by decide +kernel⟩
set_option maxRecDepth 100000 in
theorem vX8_change_0 {x : ab_Cx} {d mc ms : Nat} {Post : Option ab_V → List ab_Ob → Prop} (hx : ab_At x mX8_change d mc ms Post) (a1 a2 a3 : Int) (w0 w1 w2 w3 w4 w5 w6 w7 w8 w9 w10 w11 w12 w13 w14 w15 : ab_Ob) (kc ks : Nat)
    (h : ((a1 < 0 ∨ 3 < a1 → (∃ Q21 : Option ab_V → List ab_Ob → Prop, ab_Ct d 0 0 mX5_moveAll [ab_O 0, ab_I a3] [w3] Q21 ∧ (∀ v22 : ab_Ob, Q21 none [v22] → (∃ Q23 : Option ab_V → List ab_Ob → Prop, ab_Ct d 0 0 mX5_derive [ab_O 0] [v22] Q23 ∧ (∀ v24 : ab_Ob, Q23 none [v24] → (∃ Q25 : Option ab_V → List ab_Ob → Prop, ab_Ct d 0 0 mX8_renew [ab_O 0] [w0, w1, w2, v24, w4, w5, w6, w7, w8, w9, w10, w11, w12, w13, w14, w15] Q25 ∧ (∀ v26 : ab_Ob, ∀ v27 : ab_Ob, Q25 none [v26, w1, w2, v24, w4, w5, w6, w7, v27, w9, w10, w11, w12, w13, w14, w15] → Post none [v26, w1, w2, v24, w4, w5, w6, w7, v27, w9, w10, w11, w12, w13, w14, w15]))))))) ∧ ((a1 = 0 → ((0 ≤ a2 ∧ a2 < (w3.2 4).1) ∧ (∃ Q16 : Option ab_V → List ab_Ob → Prop, ab_Ct d 0 0 mX5_derive [ab_O 0] [(ab_pa w3 4 a2 a3)] Q16 ∧ (∀ v17 : ab_Ob, Q16 none [v17] → (∃ Q18 : Option ab_V → List ab_Ob → Prop, ab_Ct d 0 0 mX8_renew [ab_O 0] [w0, w1, w2, v17, w4, w5, w6, w7, w8, w9, w10, w11, w12, w13, w14, w15] Q18 ∧ (∀ v19 : ab_Ob, ∀ v20 : ab_Ob, Q18 none [v19, w1, w2, v17, w4, w5, w6, w7, v20, w9, w10, w11, w12, w13, w14, w15] → Post none [v19, w1, w2, v17, w4, w5, w6, w7, v20, w9, w10, w11, w12, w13, w14, w15])))))) ∧ ((a1 = 1 → ((0 ≤ a2 ∧ a2 < (w3.2 5).1) ∧ (∃ Q11 : Option ab_V → List ab_Ob → Prop, ab_Ct d 0 0 mX5_derive [ab_O 0] [(ab_pa w3 5 a2 a3)] Q11 ∧ (∀ v12 : ab_Ob, Q11 none [v12] → (∃ Q13 : Option ab_V → List ab_Ob → Prop, ab_Ct d 0 0 mX8_renew [ab_O 0] [w0, w1, w2, v12, w4, w5, w6, w7, w8, w9, w10, w11, w12, w13, w14, w15] Q13 ∧ (∀ v14 : ab_Ob, ∀ v15 : ab_Ob, Q13 none [v14, w1, w2, v12, w4, w5, w6, w7, v15, w9, w10, w11, w12, w13, w14, w15] → Post none [v14, w1, w2, v12, w4, w5, w6, w7, v15, w9, w10, w11, w12, w13, w14, w15])))))) ∧ ((a1 = 2 → ((0 ≤ a2 ∧ a2 < (w3.2 6).1) ∧ (∃ Q6 : Option ab_V → List ab_Ob → Prop, ab_Ct d 0 0 mX5_derive [ab_O 0] [(ab_pa w3 6 a2 a3)] Q6 ∧ (∀ v7 : ab_Ob, Q6 none [v7] → (∃ Q8 : Option ab_V → List ab_Ob → Prop, ab_Ct d 0 0 mX8_renew [ab_O 0] [w0, w1, w2, v7, w4, w5, w6, w7, w8, w9, w10, w11, w12, w13, w14, w15] Q8 ∧ (∀ v9 : ab_Ob, ∀ v10 : ab_Ob, Q8 none [v9, w1, w2, v7, w4, w5, w6, w7, v10, w9, w10, w11, w12, w13, w14, w15] → Post none [v9, w1, w2, v7, w4, w5, w6, w7, v10, w9, w10, w11, w12, w13, w14, w15])))))) ∧ ((a1 = 3 → (∃ Q1 : Option ab_V → List ab_Ob → Prop, ab_Ct d 0 0 mX5_derive [ab_O 0] [(ab_pf w3 2 a3)] Q1 ∧ (∀ v2 : ab_Ob, Q1 none [v2] → (∃ Q3 : Option ab_V → List ab_Ob → Prop, ab_Ct d 0 0 mX8_renew [ab_O 0] [w0, w1, w2, v2, w4, w5, w6, w7, w8, w9, w10, w11, w12, w13, w14, w15] Q3 ∧ (∀ v4 : ab_Ob, ∀ v5 : ab_Ob, Q3 none [v4, w1, w2, v2, w4, w5, w6, w7, v5, w9, w10, w11, w12, w13, w14, w15] → Post none [v4, w1, w2, v2, w4, w5, w6, w7, v5, w9, w10, w11, w12, w13, w14, w15]))))) ∧ True)))))) :
    ab_J x 0 [some (ab_O 0), some (ab_I a1), some (ab_I a2), some (ab_I a3)] [] [w0, w1, w2, w3, w4, w5, w6, w7, w8, w9, w10, w11, w12, w13, w14, w15] kc ks := ab_go hx kX8_change.2 19 [] 0 h
