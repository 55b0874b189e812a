def mX8_over : ab_M := ((yX8_over, cX8_over, 3, (some .int)), ([8, 4, 5, 5, 0, 1, 2, 7, 6, 1, 7, 7, 7, 7, 3, 3], [(0, 0), (0, 1), (0, 2), (0, 3), (0, 4), (0, 5), (0, 6), (0, 7), (0, 8), (0, 9), (0, 10), (0, 11), (0, 12), (0, 13), (0, 14), (0, 15)], [true, false, false, false, false, true, false, true, false, false, false, false, false, false, false, false], true, true, 0), (false, 8, 2))
def rX8_over : List ab_R := [(0, .aload_n 0, 1, 0, 0, 0, [], none),
  (1, .iload_n 1, 1, 0, 0, 0, [], none),
  (2, .invokevirtual 151, 3, 0, 0, 0, [], some mX8_hasNote),
  (5, .ifCond .eq 11, 3, 0, 0, 0, [16], none),
  (8, .aload_n 0, 1, 0, 0, 0, [], none),
  (9, .iload_n 2, 1, 0, 0, 0, [], none),
  (10, .invokevirtual 151, 3, 0, 0, 0, [], some mX8_hasNote),
  (13, .ifCond .ne 9, 3, 0, 0, 0, [22], none),
  (16, .aload_n 0, 1, 0, 0, 0, [], none),
  (17, .iconst 1, 1, 0, 0, 0, [], none),
  (18, .invokevirtual 101, 3, 0, 0, 0, [], some mX8_refuse),
  (21, .ireturn, 1, 0, 0, 0, [], none),
  (22, .aload_n 0, 1, 0, 0, 0, [], none),
  (23, .aload_n 0, 1, 0, 0, 0, [], none),
  (24, .invokevirtual 171, 3, 0, 0, 0, [], some mX8_freshTree),
  (27, .iload_n 1, 1, 0, 0, 0, [], none),
  (28, .iload_n 2, 1, 0, 0, 0, [], none),
  (29, .invokevirtual 294, 3, 0, 0, 0, [], some mX7_headOverBoth),
  (32, .invokevirtual 124, 3, 0, 0, 0, [], some mX8_grant),
  (35, .ireturn, 1, 0, 0, 0, [], none)]
set_option maxRecDepth 100000 in
theorem kX8_over : ab_def_ok mX8_over rX8_over := ⟨ab_mok_of 927 99 925 926 (by decide +kernel), [0, 0, 642, 0, 0, 0, 642, 0, 0, 0, 453, 0, 0, 0, 646, 0, 0, 928, 610, 0], by decide +kernel⟩
set_option maxRecDepth 100000 in
set_option maxHeartbeats 100000000 in
theorem vX8_over_0 {x : ab_Cx} {d mc ms : Nat} {Post : Option ab_V → List ab_Ob → Prop} (hx : ab_At x mX8_over d mc ms Post) (a1 a2 : Int) (w0 w1 w2 w3 w4 w5 w6 w7 w8 w9 w10 w11 w12 w13 w14 w15 : ab_Ob) (kc ks : Nat)
    (h : (∃ Q1 : Option ab_V → List ab_Ob → Prop, ab_Ct d 0 0 mX8_hasNote [ab_O 0, ab_I a1] [w0, w1, w2, w3, w4, w5, w6, w7, w8, w9, w10, w11, w12, w13, w14, w15] Q1 ∧ (∀ r2 : Int, Q1 (some (ab_I r2)) [w0, w1, w2, w3, w4, w5, w6, w7, w8, w9, w10, w11, w12, w13, w14, w15] → ((r2 = 0 → (∃ Q3 : Option ab_V → List ab_Ob → Prop, ab_Ct d 0 0 mX8_refuse [ab_O 0, ab_I 1] [w0, w1, w2, w3, w4, w5, w6, w7, w8, w9, w10, w11, w12, w13, w14, w15] Q3 ∧ (∀ r4 : Int, ∀ v5 : ab_Ob, Q3 (some (ab_I r4)) [v5, w1, w2, w3, w4, w5, w6, w7, w8, w9, w10, w11, w12, w13, w14, w15] → Post (some (ab_I r4)) [v5, w1, w2, w3, w4, w5, w6, w7, w8, w9, w10, w11, w12, w13, w14, w15]))) ∧ (¬ r2 = 0 → (∃ Q6 : Option ab_V → List ab_Ob → Prop, ab_Ct d 0 0 mX8_hasNote [ab_O 0, ab_I a2] [w0, w1, w2, w3, w4, w5, w6, w7, w8, w9, w10, w11, w12, w13, w14, w15] Q6 ∧ (∀ r7 : Int, Q6 (some (ab_I r7)) [w0, w1, w2, w3, w4, w5, w6, w7, w8, w9, w10, w11, w12, w13, w14, w15] → ((¬ r7 = 0 → (∃ mc8 ms9 : Nat, (kc + mc8 ≤ mc ∧ ks + ms9 ≤ ms) ∧ ∃ Q10 : Option ab_V → List ab_Ob → Prop, ab_Ct d mc8 ms9 mX8_freshTree [ab_O 0] [w0, w1, w2, w3, w4, w5, w6, w7, w8, w9, w10, w11, w12, w13, w14, w15] Q10 ∧ (∀ v11 : ab_Ob, ∀ v12 : ab_Ob, ∀ v13 : ab_Ob, Q10 (some (ab_O 7)) [v11, w1, w2, w3, w4, v12, w6, v13, w8, w9, w10, w11, w12, w13, w14, w15] → (∃ Q14 : Option ab_V → List ab_Ob → Prop, ab_Ct d 0 0 mX7_headOverBoth [ab_O 0, ab_I a1, ab_I a2] [v13] Q14 ∧ (∀ r15 : Int, Q14 (some (ab_I r15)) [v13] → (∃ Q16 : Option ab_V → List ab_Ob → Prop, ab_Ct d 0 0 mX8_grant [ab_O 0, ab_I r15] [v11, w1, w2, w3, w4, v12, w6, v13, w8, w9, w10, w11, w12, w13, w14, w15] Q16 ∧ (∀ r17 : Int, ∀ v18 : ab_Ob, Q16 (some (ab_I r17)) [v18, w1, w2, w3, w4, v12, w6, v13, w8, w9, w10, w11, w12, w13, w14, w15] → Post (some (ab_I r17)) [v18, w1, w2, w3, w4, v12, w6, v13, w8, w9, w10, w11, w12, w13, w14, w15]))))))) ∧ (r7 = 0 → (∃ Q19 : Option ab_V → List ab_Ob → Prop, ab_Ct d 0 0 mX8_refuse [ab_O 0, ab_I 1] [w0, w1, w2, w3, w4, w5, w6, w7, w8, w9, w10, w11, w12, w13, w14, w15] Q19 ∧ (∀ r20 : Int, ∀ v21 : ab_Ob, Q19 (some (ab_I r20)) [v21, w1, w2, w3, w4, w5, w6, w7, w8, w9, w10, w11, w12, w13, w14, w15] → Post (some (ab_I r20)) [v21, w1, w2, w3, w4, w5, w6, w7, w8, w9, w10, w11, w12, w13, w14, w15]))))))))))) :
    ab_J x 0 [some (ab_O 0), some (ab_I a1), some (ab_I a2)] [] [w0, w1, w2, w3, w4, w5, w6, w7, w8, w9, w10, w11, w12, w13, w14, w15] kc ks := ab_go hx kX8_over.2 20 [] 0 h
def mX8_under : ab_M := ((yX8_under, cX8_under, 2, (some .int)), ([8, 4, 5, 5, 0, 1, 2, 7, 6, 1, 7, 7, 7, 7, 3, 3], [(0, 0), (0, 1), (0, 2), (0, 3), (0, 4), (0, 5), (0, 6), (0, 7), (0, 8), (0, 9), (0, 10), (0, 11), (0, 12), (0, 13), (0, 14), (0, 15)], [true, false, false, false, false, true, false, true, false, false, false, false, false, false, false, false], true, true, 0), (false, 8, 1))
def rX8_under : List ab_R := [(0, .aload_n 0, 1, 0, 0, 0, [], none),
  (1, .iload_n 1, 1, 0, 0, 0, [], none),
  (2, .invokevirtual 151, 3, 0, 0, 0, [], some mX8_hasNote),
  (5, .ifCond .eq 18, 3, 0, 0, 0, [23], none),
  (8, .aload_n 0, 1, 0, 0, 0, [], none),
  (9, .aload_n 0, 1, 0, 0, 0, [], none),
  (10, .invokevirtual 171, 3, 0, 0, 0, [], some mX8_freshTree),
  (13, .iload_n 1, 1, 0, 0, 0, [], none),
  (14, .invokevirtual 297, 3, 0, 0, 0, [], some mX7_notesUnder),
  (17, .invokevirtual 124, 3, 0, 0, 0, [], some mX8_grant),
  (20, .goto 8, 3, 0, 0, 0, [28], none),
  (23, .aload_n 0, 1, 0, 0, 0, [], none),
  (24, .iconst 1, 1, 0, 0, 0, [], none),
  (25, .invokevirtual 101, 3, 0, 0, 0, [], some mX8_refuse),
  (28, .ireturn, 1, 0, 0, 0, [], none)]
set_option maxRecDepth 100000 in
theorem kX8_under : ab_def_ok mX8_under rX8_under := ⟨ab_mok_of 936 99 934 935 (by decide +kernel), [0, 0, 642, 0, 0, 0, 646, 0, 937, 610, 0, 0, 0, 453, 0], by decide +kernel⟩
set_option maxRecDepth 100000 in
set_option maxHeartbeats 100000000 in
theorem vX8_under_0 {x : ab_Cx} {d mc ms : Nat} {Post : Option ab_V → List ab_Ob → Prop} (hx : ab_At x mX8_under d mc ms Post) (a1 : Int) (w0 w1 w2 w3 w4 w5 w6 w7 w8 w9 w10 w11 w12 w13 w14 w15 : ab_Ob) (kc ks : Nat)
    (h : (∃ Q1 : Option ab_V → List ab_Ob → Prop, ab_Ct d 0 0 mX8_hasNote [ab_O 0, ab_I a1] [w0, w1, w2, w3, w4, w5, w6, w7, w8, w9, w10, w11, w12, w13, w14, w15] Q1 ∧ (∀ r2 : Int, Q1 (some (ab_I r2)) [w0, w1, w2, w3, w4, w5, w6, w7, w8, w9, w10, w11, w12, w13, w14, w15] → ((r2 = 0 → (∃ Q3 : Option ab_V → List ab_Ob → Prop, ab_Ct d 0 0 mX8_refuse [ab_O 0, ab_I 1] [w0, w1, w2, w3, w4, w5, w6, w7, w8, w9, w10, w11, w12, w13, w14, w15] Q3 ∧ (∀ r4 : Int, ∀ v5 : ab_Ob, Q3 (some (ab_I r4)) [v5, w1, w2, w3, w4, w5, w6, w7, w8, w9, w10, w11, w12, w13, w14, w15] → Post (some (ab_I r4)) [v5, w1, w2, w3, w4, w5, w6, w7, w8, w9, w10, w11, w12, w13, w14, w15]))) ∧ (¬ r2 = 0 → (∃ mc6 ms7 : Nat, (kc + mc6 ≤ mc ∧ ks + ms7 ≤ ms) ∧ ∃ Q8 : Option ab_V → List ab_Ob → Prop, ab_Ct d mc6 ms7 mX8_freshTree [ab_O 0] [w0, w1, w2, w3, w4, w5, w6, w7, w8, w9, w10, w11, w12, w13, w14, w15] Q8 ∧ (∀ v9 : ab_Ob, ∀ v10 : ab_Ob, ∀ v11 : ab_Ob, Q8 (some (ab_O 7)) [v9, w1, w2, w3, w4, v10, w6, v11, w8, w9, w10, w11, w12, w13, w14, w15] → (∃ Q12 : Option ab_V → List ab_Ob → Prop, ab_Ct d 0 0 mX7_notesUnder [ab_O 0, ab_I a1] [v11] Q12 ∧ (∀ r13 : Int, Q12 (some (ab_I r13)) [v11] → (∃ Q14 : Option ab_V → List ab_Ob → Prop, ab_Ct d 0 0 mX8_grant [ab_O 0, ab_I r13] [v9, w1, w2, w3, w4, v10, w6, v11, w8, w9, w10, w11, w12, w13, w14, w15] Q14 ∧ (∀ r15 : Int, ∀ v16 : ab_Ob, Q14 (some (ab_I r15)) [v16, w1, w2, w3, w4, v10, w6, v11, w8, w9, w10, w11, w12, w13, w14, w15] → Post (some (ab_I r15)) [v16, w1, w2, w3, w4, v10, w6, v11, w8, w9, w10, w11, w12, w13, w14, w15]))))))))))) :
    ab_J x 0 [some (ab_O 0), some (ab_I a1)] [] [w0, w1, w2, w3, w4, w5, w6, w7, w8, w9, w10, w11, w12, w13, w14, w15] kc ks := ab_go hx kX8_under.2 16 [] 0 h
def mX8_firm : ab_M := ((yX8_firm, cX8_firm, 3, (some .int)), ([8, 4, 5, 5, 0, 1, 2, 7, 6, 1, 7, 7, 7, 7, 3, 3], [(0, 0), (0, 1), (0, 2), (0, 3), (0, 4), (0, 5), (0, 6), (0, 7), (0, 8), (0, 9), (0, 10), (0, 11), (0, 12), (0, 13), (0, 14), (0, 15)], [true, false, false, true, false, false, false, false, true, true, true, false, false, false, false, false], true, true, 0), (false, 8, 2))
def rX8_firm : List ab_R := [(0, .aload_n 0, 1, 0, 0, 0, [], none),
  (1, .iload_n 1, 1, 0, 0, 0, [], none),
  (2, .invokevirtual 178, 3, 0, 0, 0, [], some mX8_hasRule),
  (5, .ifCond .ne 9, 3, 0, 0, 0, [14], none),
  (8, .aload_n 0, 1, 0, 0, 0, [], none),
  (9, .iconst 1, 1, 0, 0, 0, [], none),
  (10, .invokevirtual 101, 3, 0, 0, 0, [], some mX8_refuse),
  (13, .ireturn, 1, 0, 0, 0, [], none),
  (14, .aload_n 0, 1, 0, 0, 0, [], none),
  (15, .iload_n 2, 1, 0, 0, 0, [], none),
  (16, .ifCond .eq 18, 3, 0, 0, 0, [34], none),
  (19, .aload_n 0, 1, 0, 0, 0, [], none),
  (20, .getfield 68, 3, 8, 10, 0, [], none),
  (23, .aload_n 0, 1, 0, 0, 0, [], none),
  (24, .getfield 23, 3, 8, 2, 0, [], none),
  (27, .iload_n 1, 1, 0, 0, 0, [], none),
  (28, .invokevirtual 300, 3, 0, 0, 0, [], some mX6_firmUpTo),
  (31, .goto 15, 3, 0, 0, 0, [46], none),
  (34, .aload_n 0, 1, 0, 0, 0, [], none),
  (35, .getfield 68, 3, 8, 10, 0, [], none),
  (38, .aload_n 0, 1, 0, 0, 0, [], none),
  (39, .getfield 23, 3, 8, 2, 0, [], none),
  (42, .iload_n 1, 1, 0, 0, 0, [], none),
  (43, .invokevirtual 303, 3, 0, 0, 0, [], some mX6_firmDownTo),
  (46, .invokevirtual 124, 3, 0, 0, 0, [], some mX8_grant),
  (49, .ireturn, 1, 0, 0, 0, [], none)]
set_option maxRecDepth 100000 in
theorem kX8_firm : ab_def_ok mX8_firm rX8_firm := ⟨ab_mok_of 946 99 944 945 (by decide +kernel), [0, 0, 733, 0, 0, 0, 453, 0, 0, 0, 0, 0, 399, 0, 391, 0, 947, 0, 0, 399, 0, 391, 0, 964, 610, 0], by decide +kernel⟩
set_option maxRecDepth 100000 in
set_option maxHeartbeats 100000000 in
theorem vX8_firm_0 {x : ab_Cx} {d mc ms : Nat} {Post : Option ab_V → List ab_Ob → Prop} (hx : ab_At x mX8_firm d mc ms Post) (a1 a2 : Int) (w0 w1 w2 w3 w4 w5 w6 w7 w8 w9 w10 w11 w12 w13 w14 w15 : ab_Ob) (kc ks : Nat)
    (h : (∃ Q1 : Option ab_V → List ab_Ob → Prop, ab_Ct d 0 0 mX8_hasRule [ab_O 0, ab_I a1] [w0, w1, w2, w3, w4, w5, w6, w7, w8, w9, w10, w11, w12, w13, w14, w15] Q1 ∧ (∀ r2 : Int, Q1 (some (ab_I r2)) [w0, w1, w2, w3, w4, w5, w6, w7, w8, w9, w10, w11, w12, w13, w14, w15] → ((¬ r2 = 0 → ((a2 = 0 → (∃ mc3 ms4 : Nat, (kc + mc3 ≤ mc ∧ ks + ms4 ≤ ms) ∧ ∃ Q5 : Option ab_V → List ab_Ob → Prop, ab_Ct d mc3 ms4 mX6_firmDownTo [ab_O 0, ab_O 3, ab_I a1] [w8, w9, w10, w3] Q5 ∧ (∀ r6 : Int, ∀ v7 : ab_Ob, ∀ v8 : ab_Ob, ∀ v9 : ab_Ob, ∀ v10 : ab_Ob, Q5 (some (ab_I r6)) [v7, v8, v9, v10] → (∃ Q11 : Option ab_V → List ab_Ob → Prop, ab_Ct d 0 0 mX8_grant [ab_O 0, ab_I r6] [w0, w1, w2, v10, w4, w5, w6, w7, v7, v8, v9, w11, w12, w13, w14, w15] Q11 ∧ (∀ r12 : Int, ∀ v13 : ab_Ob, Q11 (some (ab_I r12)) [v13, w1, w2, v10, w4, w5, w6, w7, v7, v8, v9, w11, w12, w13, w14, w15] → Post (some (ab_I r12)) [v13, w1, w2, v10, w4, w5, w6, w7, v7, v8, v9, w11, w12, w13, w14, w15]))))) ∧ (¬ a2 = 0 → (∃ mc14 ms15 : Nat, (kc + mc14 ≤ mc ∧ ks + ms15 ≤ ms) ∧ ∃ Q16 : Option ab_V → List ab_Ob → Prop, ab_Ct d mc14 ms15 mX6_firmUpTo [ab_O 0, ab_O 3, ab_I a1] [w8, w9, w10, w3] Q16 ∧ (∀ r17 : Int, ∀ v18 : ab_Ob, ∀ v19 : ab_Ob, ∀ v20 : ab_Ob, ∀ v21 : ab_Ob, Q16 (some (ab_I r17)) [v18, v19, v20, v21] → (∃ Q22 : Option ab_V → List ab_Ob → Prop, ab_Ct d 0 0 mX8_grant [ab_O 0, ab_I r17] [w0, w1, w2, v21, w4, w5, w6, w7, v18, v19, v20, w11, w12, w13, w14, w15] Q22 ∧ (∀ r23 : Int, ∀ v24 : ab_Ob, Q22 (some (ab_I r23)) [v24, w1, w2, v21, w4, w5, w6, w7, v18, v19, v20, w11, w12, w13, w14, w15] → Post (some (ab_I r23)) [v24, w1, w2, v21, w4, w5, w6, w7, v18, v19, v20, w11, w12, w13, w14, w15]))))))) ∧ (r2 = 0 → (∃ Q25 : Option ab_V → List ab_Ob → Prop, ab_Ct d 0 0 mX8_refuse [ab_O 0, ab_I 1] [w0, w1, w2, w3, w4, w5, w6, w7, w8, w9, w10, w11, w12, w13, w14, w15] Q25 ∧ (∀ r26 : Int, ∀ v27 : ab_Ob, Q25 (some (ab_I r26)) [v27, w1, w2, w3, w4, w5, w6, w7, w8, w9, w10, w11, w12, w13, w14, w15] → Post (some (ab_I r26)) [v27, w1, w2, w3, w4, w5, w6, w7, w8, w9, w10, w11, w12, w13, w14, w15]))))))) :
    ab_J x 0 [some (ab_O 0), some (ab_I a1), some (ab_I a2)] [] [w0, w1, w2, w3, w4, w5, w6, w7, w8, w9, w10, w11, w12, w13, w14, w15] kc ks := ab_go hx kX8_firm.2 20 [] 0 h
def mX8_sways : ab_M := ((yX8_sways, cX8_sways, 3, (some .int)), ([8, 4, 5, 5, 0, 1, 2, 7, 6, 1, 7, 7, 7, 7, 3, 3], [(0, 0), (0, 1), (0, 2), (0, 3), (0, 4), (0, 5), (0, 6), (0, 7), (0, 8), (0, 9), (0, 10), (0, 11), (0, 12), (0, 13), (0, 14), (0, 15)], [true, false, false, true, false, false, false, false, true, true, true, false, false, false, false, false], true, true, 0), (false, 8, 2))
def rX8_sways : List ab_R := [(0, .aload_n 0, 1, 0, 0, 0, [], none),
  (1, .iload_n 1, 1, 0, 0, 0, [], none),
  (2, .invokevirtual 178, 3, 0, 0, 0, [], some mX8_hasRule),
  (5, .ifCond .eq 11, 3, 0, 0, 0, [16], none),
  (8, .aload_n 0, 1, 0, 0, 0, [], none),
  (9, .iload_n 2, 1, 0, 0, 0, [], none),
  (10, .invokevirtual 151, 3, 0, 0, 0, [], some mX8_hasNote),
  (13, .ifCond .ne 9, 3, 0, 0, 0, [22], none),
  (16, .aload_n 0, 1, 0, 0, 0, [], none),
  (17, .iconst 1, 1, 0, 0, 0, [], none),
  (18, .invokevirtual 101, 3, 0, 0, 0, [], some mX8_refuse),
  (21, .ireturn, 1, 0, 0, 0, [], none),
  (22, .aload_n 0, 1, 0, 0, 0, [], none),
  (23, .getfield 68, 3, 8, 10, 0, [], none),
  (26, .aload_n 0, 1, 0, 0, 0, [], none),
  (27, .getfield 23, 3, 8, 2, 0, [], none),
  (30, .iload_n 1, 1, 0, 0, 0, [], none),
  (31, .invokevirtual 306, 3, 0, 0, 0, [], some mX6_learnAll),
  (34, .aload_n 0, 1, 0, 0, 0, [], none),
  (35, .aload_n 0, 1, 0, 0, 0, [], none),
  (36, .getfield 68, 3, 8, 10, 0, [], none),
  (39, .iload_n 1, 1, 0, 0, 0, [], none),
  (40, .iload_n 2, 1, 0, 0, 0, [], none),
  (41, .invokevirtual 310, 3, 0, 0, 0, [], some mX6_leastWeightFor),
  (44, .invokevirtual 124, 3, 0, 0, 0, [], some mX8_grant),
  (47, .ireturn, 1, 0, 0, 0, [], none)]
set_option maxRecDepth 100000 in
theorem kX8_sways : ab_def_ok mX8_sways rX8_sways := ⟨ab_mok_of 971 99 969 970 (by decide +kernel), [0, 0, 733, 0, 0, 0, 642, 0, 0, 0, 453, 0, 0, 399, 0, 391, 0, 972, 0, 0, 399, 0, 0, 980, 610, 0], by decide +kernel⟩
set_option maxRecDepth 100000 in
set_option maxHeartbeats 100000000 in
theorem vX8_sways_0 {x : ab_Cx} {d mc ms : Nat} {Post : Option ab_V → List ab_Ob → Prop} (hx : ab_At x mX8_sways d mc ms Post) (a1 a2 : Int) (w0 w1 w2 w3 w4 w5 w6 w7 w8 w9 w10 w11 w12 w13 w14 w15 : ab_Ob) (kc ks : Nat)
    (h : (∃ Q1 : Option ab_V → List ab_Ob → Prop, ab_Ct d 0 0 mX8_hasRule [ab_O 0, ab_I a1] [w0, w1, w2, w3, w4, w5, w6, w7, w8, w9, w10, w11, w12, w13, w14, w15] Q1 ∧ (∀ r2 : Int, Q1 (some (ab_I r2)) [w0, w1, w2, w3, w4, w5, w6, w7, w8, w9, w10, w11, w12, w13, w14, w15] → ((r2 = 0 → (∃ Q3 : Option ab_V → List ab_Ob → Prop, ab_Ct d 0 0 mX8_refuse [ab_O 0, ab_I 1] [w0, w1, w2, w3, w4, w5, w6, w7, w8, w9, w10, w11, w12, w13, w14, w15] Q3 ∧ (∀ r4 : Int, ∀ v5 : ab_Ob, Q3 (some (ab_I r4)) [v5, w1, w2, w3, w4, w5, w6, w7, w8, w9, w10, w11, w12, w13, w14, w15] → Post (some (ab_I r4)) [v5, w1, w2, w3, w4, w5, w6, w7, w8, w9, w10, w11, w12, w13, w14, w15]))) ∧ (¬ r2 = 0 → (∃ Q6 : Option ab_V → List ab_Ob → Prop, ab_Ct d 0 0 mX8_hasNote [ab_O 0, ab_I a2] [w0, w1, w2, w3, w4, w5, w6, w7, w8, w9, w10, w11, w12, w13, w14, w15] Q6 ∧ (∀ r7 : Int, Q6 (some (ab_I r7)) [w0, w1, w2, w3, w4, w5, w6, w7, w8, w9, w10, w11, w12, w13, w14, w15] → ((¬ r7 = 0 → (∃ mc8 ms9 : Nat, (kc + mc8 ≤ mc ∧ ks + ms9 ≤ ms) ∧ ∃ Q10 : Option ab_V → List ab_Ob → Prop, ab_Ct d mc8 ms9 mX6_learnAll [ab_O 0, ab_O 3, ab_I a1] [w8, w9, w10, w3] Q10 ∧ (∀ v11 : ab_Ob, ∀ v12 : ab_Ob, ∀ v13 : ab_Ob, ∀ v14 : ab_Ob, Q10 none [v11, v12, v13, v14] → (∃ Q15 : Option ab_V → List ab_Ob → Prop, ab_Ct d 0 0 mX6_leastWeightFor [ab_O 0, ab_I a1, ab_I a2] [v11, v12, v13] Q15 ∧ (∀ r16 : Int, Q15 (some (ab_I r16)) [v11, v12, v13] → (∃ Q17 : Option ab_V → List ab_Ob → Prop, ab_Ct d 0 0 mX8_grant [ab_O 0, ab_I r16] [w0, w1, w2, v14, w4, w5, w6, w7, v11, v12, v13, w11, w12, w13, w14, w15] Q17 ∧ (∀ r18 : Int, ∀ v19 : ab_Ob, Q17 (some (ab_I r18)) [v19, w1, w2, v14, w4, w5, w6, w7, v11, v12, v13, w11, w12, w13, w14, w15] → Post (some (ab_I r18)) [v19, w1, w2, v14, w4, w5, w6, w7, v11, v12, v13, w11, w12, w13, w14, w15]))))))) ∧ (r7 = 0 → (∃ Q20 : Option ab_V → List ab_Ob → Prop, ab_Ct d 0 0 mX8_refuse [ab_O 0, ab_I 1] [w0, w1, w2, w3, w4, w5, w6, w7, w8, w9, w10, w11, w12, w13, w14, w15] Q20 ∧ (∀ r21 : Int, ∀ v22 : ab_Ob, Q20 (some (ab_I r21)) [v22, w1, w2, w3, w4, w5, w6, w7, w8, w9, w10, w11, w12, w13, w14, w15] → Post (some (ab_I r21)) [v22, w1, w2, w3, w4, w5, w6, w7, w8, w9, w10, w11, w12, w13, w14, w15]))))))))))) :
    ab_J x 0 [some (ab_O 0), some (ab_I a1), some (ab_I a2)] [] [w0, w1, w2, w3, w4, w5, w6, w7, w8, w9, w10, w11, w12, w13, w14, w15] kc ks := ab_go hx kX8_sways.2 26 [] 0 h
