def mX8_broken : ab_M := ((yX8_broken, cX8_broken, 6, (some .int)), ([8, 4, 5, 5, 0, 1, 2, 7, 6, 1, 7, 7, 7, 7, 3, 3], [(0, 0), (0, 1), (0, 2), (0, 3), (0, 4), (0, 5), (0, 6), (0, 7), (0, 8), (0, 9), (0, 10), (0, 11), (0, 12), (0, 13), (0, 14), (0, 15)], [true, false, false, false, false, false, false, false, false, false, false, false, false, false, false, false], false, false, 0), (false, 8, 5))
def rX8_broken : List ab_R := [(0, .aload_n 0, 1, 0, 0, 0, [], none),
  (1, .iload_n 1, 1, 0, 0, 0, [], none),
  (2, .invokevirtual 178, 3, 0, 0, 0, [], some mX8_hasRule),
  (5, .ifCond .eq 24, 3, 0, 0, 0, [29], none),
  (8, .aload_n 0, 1, 0, 0, 0, [], none),
  (9, .iload_n 2, 1, 0, 0, 0, [], none),
  (10, .invokevirtual 151, 3, 0, 0, 0, [], some mX8_hasNote),
  (13, .ifCond .eq 16, 3, 0, 0, 0, [29], none),
  (16, .aload_n 0, 1, 0, 0, 0, [], none),
  (17, .iload_n 3, 1, 0, 0, 0, [], none),
  (18, .invokevirtual 151, 3, 0, 0, 0, [], some mX8_hasNote),
  (21, .ifCond .eq 8, 3, 0, 0, 0, [29], none),
  (24, .iload_n 2, 1, 0, 0, 0, [], none),
  (25, .iload_n 3, 1, 0, 0, 0, [], none),
  (26, .if_icmp .ne 9, 3, 0, 0, 0, [35], none),
  (29, .aload_n 0, 1, 0, 0, 0, [], none),
  (30, .iconst 1, 1, 0, 0, 0, [], none),
  (31, .invokevirtual 101, 3, 0, 0, 0, [], some mX8_refuse),
  (34, .ireturn, 1, 0, 0, 0, [], none),
  (35, .iload 4, 2, 0, 0, 0, [], none),
  (37, .iconst 1, 1, 0, 0, 0, [], none),
  (38, .if_icmp .lt 23, 3, 0, 0, 0, [61], none),
  (41, .iload 4, 2, 0, 0, 0, [], none),
  (43, .bipush 24, 2, 0, 0, 0, [], none),
  (45, .if_icmp .ge 16, 3, 0, 0, 0, [61], none),
  (48, .iload 5, 2, 0, 0, 0, [], none),
  (50, .iconst 1, 1, 0, 0, 0, [], none),
  (51, .if_icmp .lt 10, 3, 0, 0, 0, [61], none),
  (54, .iload 5, 2, 0, 0, 0, [], none),
  (56, .bipush 24, 2, 0, 0, 0, [], none),
  (58, .if_icmp .lt 9, 3, 0, 0, 0, [67], none),
  (61, .aload_n 0, 1, 0, 0, 0, [], none),
  (62, .iconst 2, 1, 0, 0, 0, [], none),
  (63, .invokevirtual 101, 3, 0, 0, 0, [], some mX8_refuse),
  (66, .ireturn, 1, 0, 0, 0, [], none),
  (67, .aload_n 0, 1, 0, 0, 0, [], none),
  (68, .aload_n 0, 1, 0, 0, 0, [], none),
  (69, .getfield 23, 3, 8, 2, 0, [], none),
  (72, .getfield 181, 3, 5, 6, 0, [], none),
  (75, .iload_n 1, 1, 0, 0, 0, [], none),
  (76, .iaload, 1, 0, 0, 0, [], none),
  (77, .aload_n 0, 1, 0, 0, 0, [], none),
  (78, .getfield 23, 3, 8, 2, 0, [], none),
  (81, .iload_n 1, 1, 0, 0, 0, [], none),
  (82, .iload_n 2, 1, 0, 0, 0, [], none),
  (83, .iload_n 3, 1, 0, 0, 0, [], none),
  (84, .iload 4, 2, 0, 0, 0, [], none),
  (86, .iload 5, 2, 0, 0, 0, [], none),
  (88, .invokevirtual 227, 3, 0, 0, 0, [], some mX5_units),
  (91, .imul, 1, 0, 0, 0, [], none),
  (92, .invokevirtual 124, 3, 0, 0, 0, [], some mX8_grant),
  (95, .ireturn, 1, 0, 0, 0, [], none)]
set_option maxRecDepth 100000 in
theorem kX8_broken : ab_def_ok mX8_broken rX8_broken := ⟨ab_mok_of 828 101 826 827 (by decide +kernel), [0, 0, 743, 0, 0, 0, 652, 0, 0, 0, 652, 0, 0, 0, 0, 0, 0, 455, 0, 0, 0, 0, 0, 0, 0, 0, 0, 0, 0, 0, 0, 0, 0, 455, 0, 0, 0, 393, 162, 0, 0, 0, 393, 0, 0, 0, 0, 0, 829, 0, 620, 0], by decide +kernel⟩
set_option maxRecDepth 100000 in
theorem vX8_broken_0 {x : ab_Cx} {d mc ms : Nat} {Post : Option ab_V → List ab_Ob → Prop} (hx : ab_At x mX8_broken d mc ms Post) (a1 a2 a3 a4 a5 : Int) (w0 w1 w2 w3 w4 w5 w6 w7 w8 w9 w10 w11 w12 w13 w14 w15 : ab_Ob) (kc ks : Nat)
    (h : (∃ Q1 : Option ab_V → List ab_Ob → Prop, ab_Ct d 0 0 mX8_hasRule [ab_O 0, ab_I a1] [w0, w1, w2, w3, w4, w5, w6, w7, w8, w9, w10, w11, w12, w13, w14, w15] Q1 ∧ (∀ r2 : Int, Q1 (some (ab_I r2)) [w0, w1, w2, w3, w4, w5, w6, w7, w8, w9, w10, w11, w12, w13, w14, w15] → ((r2 = 0 → (∃ Q3 : Option ab_V → List ab_Ob → Prop, ab_Ct d 0 0 mX8_refuse [ab_O 0, ab_I 1] [w0, w1, w2, w3, w4, w5, w6, w7, w8, w9, w10, w11, w12, w13, w14, w15] Q3 ∧ (∀ r4 : Int, ∀ v5 : ab_Ob, Q3 (some (ab_I r4)) [v5, w1, w2, w3, w4, w5, w6, w7, w8, w9, w10, w11, w12, w13, w14, w15] → Post (some (ab_I r4)) [v5, w1, w2, w3, w4, w5, w6, w7, w8, w9, w10, w11, w12, w13, w14, w15]))) ∧ (¬ r2 = 0 → (∃ Q6 : Option ab_V → List ab_Ob → Prop, ab_Ct d 0 0 mX8_hasNote [ab_O 0, ab_I a2] [w0, w1, w2, w3, w4, w5, w6, w7, w8, w9, w10, w11, w12, w13, w14, w15] Q6 ∧ (∀ r7 : Int, Q6 (some (ab_I r7)) [w0, w1, w2, w3, w4, w5, w6, w7, w8, w9, w10, w11, w12, w13, w14, w15] → ((r7 = 0 → (∃ Q8 : Option ab_V → List ab_Ob → Prop, ab_Ct d 0 0 mX8_refuse [ab_O 0, ab_I 1] [w0, w1, w2, w3, w4, w5, w6, w7, w8, w9, w10, w11, w12, w13, w14, w15] Q8 ∧ (∀ r9 : Int, ∀ v10 : ab_Ob, Q8 (some (ab_I r9)) [v10, w1, w2, w3, w4, w5, w6, w7, w8, w9, w10, w11, w12, w13, w14, w15] → Post (some (ab_I r9)) [v10, w1, w2, w3, w4, w5, w6, w7, w8, w9, w10, w11, w12, w13, w14, w15]))) ∧ (¬ r7 = 0 → (∃ Q11 : Option ab_V → List ab_Ob → Prop, ab_Ct d 0 0 mX8_hasNote [ab_O 0, ab_I a3] [w0, w1, w2, w3, w4, w5, w6, w7, w8, w9, w10, w11, w12, w13, w14, w15] Q11 ∧ (∀ r12 : Int, Q11 (some (ab_I r12)) [w0, w1, w2, w3, w4, w5, w6, w7, w8, w9, w10, w11, w12, w13, w14, w15] → ((r12 = 0 → (∃ Q13 : Option ab_V → List ab_Ob → Prop, ab_Ct d 0 0 mX8_refuse [ab_O 0, ab_I 1] [w0, w1, w2, w3, w4, w5, w6, w7, w8, w9, w10, w11, w12, w13, w14, w15] Q13 ∧ (∀ r14 : Int, ∀ v15 : ab_Ob, Q13 (some (ab_I r14)) [v15, w1, w2, w3, w4, w5, w6, w7, w8, w9, w10, w11, w12, w13, w14, w15] → Post (some (ab_I r14)) [v15, w1, w2, w3, w4, w5, w6, w7, w8, w9, w10, w11, w12, w13, w14, w15]))) ∧ (¬ r12 = 0 → ((¬ a2 = a3 → ((a4 < 1 → (∃ Q16 : Option ab_V → List ab_Ob → Prop, ab_Ct d 0 0 mX8_refuse [ab_O 0, ab_I 2] [w0, w1, w2, w3, w4, w5, w6, w7, w8, w9, w10, w11, w12, w13, w14, w15] Q16 ∧ (∀ r17 : Int, ∀ v18 : ab_Ob, Q16 (some (ab_I r17)) [v18, w1, w2, w3, w4, w5, w6, w7, w8, w9, w10, w11, w12, w13, w14, w15] → Post (some (ab_I r17)) [v18, w1, w2, w3, w4, w5, w6, w7, w8, w9, w10, w11, w12, w13, w14, w15]))) ∧ (¬ a4 < 1 → ((24 ≤ a4 → (∃ Q19 : Option ab_V → List ab_Ob → Prop, ab_Ct d 0 0 mX8_refuse [ab_O 0, ab_I 2] [w0, w1, w2, w3, w4, w5, w6, w7, w8, w9, w10, w11, w12, w13, w14, w15] Q19 ∧ (∀ r20 : Int, ∀ v21 : ab_Ob, Q19 (some (ab_I r20)) [v21, w1, w2, w3, w4, w5, w6, w7, w8, w9, w10, w11, w12, w13, w14, w15] → Post (some (ab_I r20)) [v21, w1, w2, w3, w4, w5, w6, w7, w8, w9, w10, w11, w12, w13, w14, w15]))) ∧ (¬ 24 ≤ a4 → ((a5 < 1 → (∃ Q22 : Option ab_V → List ab_Ob → Prop, ab_Ct d 0 0 mX8_refuse [ab_O 0, ab_I 2] [w0, w1, w2, w3, w4, w5, w6, w7, w8, w9, w10, w11, w12, w13, w14, w15] Q22 ∧ (∀ r23 : Int, ∀ v24 : ab_Ob, Q22 (some (ab_I r23)) [v24, w1, w2, w3, w4, w5, w6, w7, w8, w9, w10, w11, w12, w13, w14, w15] → Post (some (ab_I r23)) [v24, w1, w2, w3, w4, w5, w6, w7, w8, w9, w10, w11, w12, w13, w14, w15]))) ∧ (¬ a5 < 1 → ((a5 < 24 → ((0 ≤ a1 ∧ a1 < (w3.2 6).1) ∧ (∃ Q25 : Option ab_V → List ab_Ob → Prop, ab_Ct d 0 0 mX5_units [ab_O 0, ab_I a1, ab_I a2, ab_I a3, ab_I a4, ab_I a5] [w3] Q25 ∧ (∀ r26 : Int, Q25 (some (ab_I r26)) [w3] → ((-2147483648 ≤ ((w3.2 6).2 a1) * r26 ∧ ((w3.2 6).2 a1) * r26 ≤ 2147483647) ∧ (∃ Q27 : Option ab_V → List ab_Ob → Prop, ab_Ct d 0 0 mX8_grant [ab_O 0, ab_I (((w3.2 6).2 a1) * r26)] [w0, w1, w2, w3, w4, w5, w6, w7, w8, w9, w10, w11, w12, w13, w14, w15] Q27 ∧ (∀ r28 : Int, ∀ v29 : ab_Ob, Q27 (some (ab_I r28)) [v29, w1, w2, w3, w4, w5, w6, w7, w8, w9, w10, w11, w12, w13, w14, w15] → Post (some (ab_I r28)) [v29, w1, w2, w3, w4, w5, w6, w7, w8, w9, w10, w11, w12, w13, w14, w15]))))))) ∧ (¬ a5 < 24 → (∃ Q30 : Option ab_V → List ab_Ob → Prop, ab_Ct d 0 0 mX8_refuse [ab_O 0, ab_I 2] [w0, w1, w2, w3, w4, w5, w6, w7, w8, w9, w10, w11, w12, w13, w14, w15] Q30 ∧ (∀ r31 : Int, ∀ v32 : ab_Ob, Q30 (some (ab_I r31)) [v32, w1, w2, w3, w4, w5, w6, w7, w8, w9, w10, w11, w12, w13, w14, w15] → Post (some (ab_I r31)) [v32, w1, w2, w3, w4, w5, w6, w7, w8, w9, w10, w11, w12, w13, w14, w15]))))))))))) ∧ (a2 = a3 → (∃ Q33 : Option ab_V → List ab_Ob → Prop, ab_Ct d 0 0 mX8_refuse [ab_O 0, ab_I 1] [w0, w1, w2, w3, w4, w5, w6, w7, w8, w9, w10, w11, w12, w13, w14, w15] Q33 ∧ (∀ r34 : Int, ∀ v35 : ab_Ob, Q33 (some (ab_I r34)) [v35, w1, w2, w3, w4, w5, w6, w7, w8, w9, w10, w11, w12, w13, w14, w15] → Post (some (ab_I r34)) [v35, w1, w2, w3, w4, w5, w6, w7, w8, w9, w10, w11, w12, w13, w14, w15]))))))))))))))))) :
    ab_J x 0 [some (ab_O 0), some (ab_I a1), some (ab_I a2), some (ab_I a3), some (ab_I a4), some (ab_I a5)] [] [w0, w1, w2, w3, w4, w5, w6, w7, w8, w9, w10, w11, w12, w13, w14, w15] kc ks := ab_go hx kX8_broken.2 48 [] 0 h
def mX8_joinings : ab_M := ((yX8_joinings, cX8_joinings, 1, (some .int)), ([8, 4, 5, 5, 0, 1, 2, 7, 6, 1, 7, 7, 7, 7, 3, 3], [(0, 0), (0, 1), (0, 2), (0, 3), (0, 4), (0, 5), (0, 6), (0, 7), (0, 8), (0, 9), (0, 10), (0, 11), (0, 12), (0, 13), (0, 14), (0, 15)], [true, false, false, false, false, true, false, true, false, false, false, false, false, false, false, false], true, true, 0), (false, 8, 0))
def rX8_joinings : List ab_R := [(0, .aload_n 0, 1, 0, 0, 0, [], none),
  (1, .invokevirtual 130, 3, 0, 0, 0, [], some mX8_hasPiece),
  (4, .ifCond .eq 17, 3, 0, 0, 0, [21], none),
  (7, .aload_n 0, 1, 0, 0, 0, [], none),
  (8, .aload_n 0, 1, 0, 0, 0, [], none),
  (9, .invokevirtual 171, 3, 0, 0, 0, [], some mX8_freshTree),
  (12, .getfield 231, 3, 7, 2, 0, [], none),
  (15, .invokevirtual 124, 3, 0, 0, 0, [], some mX8_grant),
  (18, .goto 8, 3, 0, 0, 0, [26], none),
  (21, .aload_n 0, 1, 0, 0, 0, [], none),
  (22, .iconst 1, 1, 0, 0, 0, [], none),
  (23, .invokevirtual 101, 3, 0, 0, 0, [], some mX8_refuse),
  (26, .ireturn, 1, 0, 0, 0, [], none)]
set_option maxRecDepth 100000 in
theorem kX8_joinings : ab_def_ok mX8_joinings rX8_joinings := ⟨ab_mok_of 833 101 831 832 (by decide +kernel), [0, 636, 0, 0, 0, 656, 297, 620, 0, 0, 0, 455, 0], by decide +kernel⟩
set_option maxRecDepth 100000 in
theorem vX8_joinings_0 {x : ab_Cx} {d mc ms : Nat} {Post : Option ab_V → List ab_Ob → Prop} (hx : ab_At x mX8_joinings d mc ms Post) (w0 w1 w2 w3 w4 w5 w6 w7 w8 w9 w10 w11 w12 w13 w14 w15 : ab_Ob) (kc ks : Nat)
    (h : (∃ Q1 : Option ab_V → List ab_Ob → Prop, ab_Ct d 0 0 mX8_hasPiece [ab_O 0] [w0, w1, w2, w3, w4, w5, w6, w7, w8, w9, w10, w11, w12, w13, w14, w15] Q1 ∧ (∀ r2 : Int, Q1 (some (ab_I r2)) [w0, w1, w2, w3, w4, w5, w6, w7, w8, w9, w10, w11, w12, w13, w14, w15] → ((r2 = 0 → (∃ Q3 : Option ab_V → List ab_Ob → Prop, ab_Ct d 0 0 mX8_refuse [ab_O 0, ab_I 1] [w0, w1, w2, w3, w4, w5, w6, w7, w8, w9, w10, w11, w12, w13, w14, w15] Q3 ∧ (∀ r4 : Int, ∀ v5 : ab_Ob, Q3 (some (ab_I r4)) [v5, w1, w2, w3, w4, w5, w6, w7, w8, w9, w10, w11, w12, w13, w14, w15] → Post (some (ab_I r4)) [v5, w1, w2, w3, w4, w5, w6, w7, w8, w9, w10, w11, w12, w13, w14, w15]))) ∧ (¬ r2 = 0 → (∃ mc6 ms7 : Nat, (kc + mc6 ≤ mc ∧ ks + ms7 ≤ ms) ∧ ∃ Q8 : Option ab_V → List ab_Ob → Prop, ab_Ct d mc6 ms7 mX8_freshTree [ab_O 0] [w0, w1, w2, w3, w4, w5, w6, w7, w8, w9, w10, w11, w12, w13, w14, w15] Q8 ∧ (∀ v9 : ab_Ob, ∀ v10 : ab_Ob, ∀ v11 : ab_Ob, Q8 (some (ab_O 7)) [v9, w1, w2, w3, w4, v10, w6, v11, w8, w9, w10, w11, w12, w13, w14, w15] → (∃ Q12 : Option ab_V → List ab_Ob → Prop, ab_Ct d 0 0 mX8_grant [ab_O 0, ab_I (v11.1 2)] [v9, w1, w2, w3, w4, v10, w6, v11, w8, w9, w10, w11, w12, w13, w14, w15] Q12 ∧ (∀ r13 : Int, ∀ v14 : ab_Ob, Q12 (some (ab_I r13)) [v14, w1, w2, w3, w4, v10, w6, v11, w8, w9, w10, w11, w12, w13, w14, w15] → Post (some (ab_I r13)) [v14, w1, w2, w3, w4, v10, w6, v11, w8, w9, w10, w11, w12, w13, w14, w15]))))))))) :
    ab_J x 0 [some (ab_O 0)] [] [w0, w1, w2, w3, w4, w5, w6, w7, w8, w9, w10, w11, w12, w13, w14, w15] kc ks := ab_go hx kX8_joinings.2 14 [] 0 h
def mX8_joining : ab_M := ((yX8_joining, cX8_joining, 4, (some .int)), ([8, 4, 5, 5, 0, 1, 2, 7, 6, 1, 7, 7, 7, 7, 3, 3], [(0, 0), (0, 1), (0, 2), (0, 3), (0, 4), (0, 5), (0, 6), (0, 7), (0, 8), (0, 9), (0, 10), (0, 11), (0, 12), (0, 13), (0, 14), (0, 15)], [true, false, false, false, false, true, false, true, false, false, false, false, false, false, false, false], true, true, 0), (false, 8, 2))
def rX8_joining : List ab_R := [(0, .aload_n 0, 1, 0, 0, 0, [], none),
  (1, .invokevirtual 130, 3, 0, 0, 0, [], some mX8_hasPiece),
  (4, .ifCond .ne 9, 3, 0, 0, 0, [13], none),
  (7, .aload_n 0, 1, 0, 0, 0, [], none),
  (8, .iconst 1, 1, 0, 0, 0, [], none),
  (9, .invokevirtual 101, 3, 0, 0, 0, [], some mX8_refuse),
  (12, .ireturn, 1, 0, 0, 0, [], none),
  (13, .aload_n 0, 1, 0, 0, 0, [], none),
  (14, .invokevirtual 171, 3, 0, 0, 0, [], some mX8_freshTree),
  (17, .astore_n 3, 1, 0, 0, 0, [], none),
  (18, .iload_n 1, 1, 0, 0, 0, [], none),
  (19, .ifCond .lt 11, 3, 0, 0, 0, [30], none),
  (22, .iload_n 1, 1, 0, 0, 0, [], none),
  (23, .aload_n 3, 1, 0, 0, 0, [], none),
  (24, .getfield 231, 3, 7, 2, 0, [], none),
  (27, .if_icmp .lt 9, 3, 0, 0, 0, [36], none),
  (30, .aload_n 0, 1, 0, 0, 0, [], none),
  (31, .iconst 1, 1, 0, 0, 0, [], none),
  (32, .invokevirtual 101, 3, 0, 0, 0, [], some mX8_refuse),
  (35, .ireturn, 1, 0, 0, 0, [], none),
  (36, .iload_n 2, 1, 0, 0, 0, [], none),
  (37, .tableswitch 123 0 6 #[43, 54, 65, 76, 87, 98, 112], 43, 0, 0, 0, [160, 80, 91, 102, 113, 124, 135, 149], none),
  (80, .aload_n 0, 1, 0, 0, 0, [], none),
  (81, .aload_n 3, 1, 0, 0, 0, [], none),
  (82, .getfield 234, 3, 7, 3, 0, [], none),
  (85, .iload_n 1, 1, 0, 0, 0, [], none),
  (86, .iaload, 1, 0, 0, 0, [], none),
  (87, .invokevirtual 124, 3, 0, 0, 0, [], some mX8_grant),
  (90, .ireturn, 1, 0, 0, 0, [], none),
  (91, .aload_n 0, 1, 0, 0, 0, [], none),
  (92, .aload_n 3, 1, 0, 0, 0, [], none),
  (93, .getfield 237, 3, 7, 4, 0, [], none),
  (96, .iload_n 1, 1, 0, 0, 0, [], none),
  (97, .iaload, 1, 0, 0, 0, [], none),
  (98, .invokevirtual 124, 3, 0, 0, 0, [], some mX8_grant),
  (101, .ireturn, 1, 0, 0, 0, [], none),
  (102, .aload_n 0, 1, 0, 0, 0, [], none),
  (103, .aload_n 3, 1, 0, 0, 0, [], none),
  (104, .getfield 240, 3, 7, 5, 0, [], none),
  (107, .iload_n 1, 1, 0, 0, 0, [], none),
  (108, .iaload, 1, 0, 0, 0, [], none),
  (109, .invokevirtual 124, 3, 0, 0, 0, [], some mX8_grant),
  (112, .ireturn, 1, 0, 0, 0, [], none),
  (113, .aload_n 0, 1, 0, 0, 0, [], none),
  (114, .aload_n 3, 1, 0, 0, 0, [], none),
  (115, .getfield 243, 3, 7, 6, 0, [], none),
  (118, .iload_n 1, 1, 0, 0, 0, [], none),
  (119, .iaload, 1, 0, 0, 0, [], none),
  (120, .invokevirtual 124, 3, 0, 0, 0, [], some mX8_grant),
  (123, .ireturn, 1, 0, 0, 0, [], none),
  (124, .aload_n 0, 1, 0, 0, 0, [], none),
  (125, .aload_n 3, 1, 0, 0, 0, [], none),
  (126, .getfield 246, 3, 7, 7, 0, [], none),
  (129, .iload_n 1, 1, 0, 0, 0, [], none),
  (130, .iaload, 1, 0, 0, 0, [], none),
  (131, .invokevirtual 124, 3, 0, 0, 0, [], some mX8_grant),
  (134, .ireturn, 1, 0, 0, 0, [], none),
  (135, .aload_n 0, 1, 0, 0, 0, [], none),
  (136, .aload_n 3, 1, 0, 0, 0, [], none),
  (137, .aload_n 0, 1, 0, 0, 0, [], none),
  (138, .getfield 23, 3, 8, 2, 0, [], none),
  (141, .iload_n 1, 1, 0, 0, 0, [], none),
  (142, .invokevirtual 249, 3, 0, 0, 0, [], some mX7_breaksAt),
  (145, .invokevirtual 124, 3, 0, 0, 0, [], some mX8_grant),
  (148, .ireturn, 1, 0, 0, 0, [], none),
  (149, .aload_n 0, 1, 0, 0, 0, [], none),
  (150, .aload_n 3, 1, 0, 0, 0, [], none),
  (151, .getfield 253, 3, 7, 8, 0, [], none),
  (154, .iload_n 1, 1, 0, 0, 0, [], none),
  (155, .iaload, 1, 0, 0, 0, [], none),
  (156, .invokevirtual 124, 3, 0, 0, 0, [], some mX8_grant),
  (159, .ireturn, 1, 0, 0, 0, [], none),
  (160, .aload_n 0, 1, 0, 0, 0, [], none),
  (161, .iconst 1, 1, 0, 0, 0, [], none),
  (162, .invokevirtual 101, 3, 0, 0, 0, [], some mX8_refuse),
  (165, .ireturn, 1, 0, 0, 0, [], none)]
set_option maxRecDepth 100000 in
theorem kX8_joining : ab_def_ok mX8_joining rX8_joining := ⟨ab_mok_of 837 101 835 836 (by decide +kernel), [0, 636, 0, 0, 0, 455, 0, 0, 656, 0, 0, 0, 0, 0, 297, 0, 0, 0, 455, 0, 0, 0, 0, 0, 300, 0, 0, 620, 0, 0, 0, 303, 0, 0, 620, 0, 0, 0, 305, 0, 0, 620, 0, 0, 0, 308, 0, 0, 620, 0, 0, 0, 310, 0, 0, 620, 0, 0, 0, 0, 393, 0, 838, 620, 0, 0, 0, 313, 0, 0, 620, 0, 0, 0, 455, 0], by decide +kernel⟩
set_option maxRecDepth 100000 in
theorem vX8_joining_0 {x : ab_Cx} {d mc ms : Nat} {Post : Option ab_V → List ab_Ob → Prop} (hx : ab_At x mX8_joining d mc ms Post) (a1 a2 : Int) (w0 w1 w2 w3 w4 w5 w6 w7 w8 w9 w10 w11 w12 w13 w14 w15 : ab_Ob) (kc ks : Nat)
    (h : (∃ Q1 : Option ab_V → List ab_Ob → Prop, ab_Ct d 0 0 mX8_hasPiece [ab_O 0] [w0, w1, w2, w3, w4, w5, w6, w7, w8, w9, w10, w11, w12, w13, w14, w15] Q1 ∧ (∀ r2 : Int, Q1 (some (ab_I r2)) [w0, w1, w2, w3, w4, w5, w6, w7, w8, w9, w10, w11, w12, w13, w14, w15] → ((¬ r2 = 0 → (∃ mc3 ms4 : Nat, (kc + mc3 ≤ mc ∧ ks + ms4 ≤ ms) ∧ ∃ Q5 : Option ab_V → List ab_Ob → Prop, ab_Ct d mc3 ms4 mX8_freshTree [ab_O 0] [w0, w1, w2, w3, w4, w5, w6, w7, w8, w9, w10, w11, w12, w13, w14, w15] Q5 ∧ (∀ v6 : ab_Ob, ∀ v7 : ab_Ob, ∀ v8 : ab_Ob, Q5 (some (ab_O 7)) [v6, w1, w2, w3, w4, v7, w6, v8, w8, w9, w10, w11, w12, w13, w14, w15] → ((a1 < 0 → (∃ Q9 : Option ab_V → List ab_Ob → Prop, ab_Ct d 0 0 mX8_refuse [ab_O 0, ab_I 1] [v6, w1, w2, w3, w4, v7, w6, v8, w8, w9, w10, w11, w12, w13, w14, w15] Q9 ∧ (∀ r10 : Int, ∀ v11 : ab_Ob, Q9 (some (ab_I r10)) [v11, w1, w2, w3, w4, v7, w6, v8, w8, w9, w10, w11, w12, w13, w14, w15] → Post (some (ab_I r10)) [v11, w1, w2, w3, w4, v7, w6, v8, w8, w9, w10, w11, w12, w13, w14, w15]))) ∧ (¬ a1 < 0 → ((a1 < (v8.1 2) → ((a2 < 0 ∨ 6 < a2 → (∃ Q35 : Option ab_V → List ab_Ob → Prop, ab_Ct d 0 0 mX8_refuse [ab_O 0, ab_I 1] [v6, w1, w2, w3, w4, v7, w6, v8, w8, w9, w10, w11, w12, w13, w14, w15] Q35 ∧ (∀ r36 : Int, ∀ v37 : ab_Ob, Q35 (some (ab_I r36)) [v37, w1, w2, w3, w4, v7, w6, v8, w8, w9, w10, w11, w12, w13, w14, w15] → Post (some (ab_I r36)) [v37, w1, w2, w3, w4, v7, w6, v8, w8, w9, w10, w11, w12, w13, w14, w15]))) ∧ ((a2 = 0 → ((0 ≤ a1 ∧ a1 < (v8.2 3).1) ∧ (∃ Q32 : Option ab_V → List ab_Ob → Prop, ab_Ct d 0 0 mX8_grant [ab_O 0, ab_I ((v8.2 3).2 a1)] [v6, w1, w2, w3, w4, v7, w6, v8, w8, w9, w10, w11, w12, w13, w14, w15] Q32 ∧ (∀ r33 : Int, ∀ v34 : ab_Ob, Q32 (some (ab_I r33)) [v34, w1, w2, w3, w4, v7, w6, v8, w8, w9, w10, w11, w12, w13, w14, w15] → Post (some (ab_I r33)) [v34, w1, w2, w3, w4, v7, w6, v8, w8, w9, w10, w11, w12, w13, w14, w15])))) ∧ ((a2 = 1 → ((0 ≤ a1 ∧ a1 < (v8.2 4).1) ∧ (∃ Q29 : Option ab_V → List ab_Ob → Prop, ab_Ct d 0 0 mX8_grant [ab_O 0, ab_I ((v8.2 4).2 a1)] [v6, w1, w2, w3, w4, v7, w6, v8, w8, w9, w10, w11, w12, w13, w14, w15] Q29 ∧ (∀ r30 : Int, ∀ v31 : ab_Ob, Q29 (some (ab_I r30)) [v31, w1, w2, w3, w4, v7, w6, v8, w8, w9, w10, w11, w12, w13, w14, w15] → Post (some (ab_I r30)) [v31, w1, w2, w3, w4, v7, w6, v8, w8, w9, w10, w11, w12, w13, w14, w15])))) ∧ ((a2 = 2 → ((0 ≤ a1 ∧ a1 < (v8.2 5).1) ∧ (∃ Q26 : Option ab_V → List ab_Ob → Prop, ab_Ct d 0 0 mX8_grant [ab_O 0, ab_I ((v8.2 5).2 a1)] [v6, w1, w2, w3, w4, v7, w6, v8, w8, w9, w10, w11, w12, w13, w14, w15] Q26 ∧ (∀ r27 : Int, ∀ v28 : ab_Ob, Q26 (some (ab_I r27)) [v28, w1, w2, w3, w4, v7, w6, v8, w8, w9, w10, w11, w12, w13, w14, w15] → Post (some (ab_I r27)) [v28, w1, w2, w3, w4, v7, w6, v8, w8, w9, w10, w11, w12, w13, w14, w15])))) ∧ ((a2 = 3 → ((0 ≤ a1 ∧ a1 < (v8.2 6).1) ∧ (∃ Q23 : Option ab_V → List ab_Ob → Prop, ab_Ct d 0 0 mX8_grant [ab_O 0, ab_I ((v8.2 6).2 a1)] [v6, w1, w2, w3, w4, v7, w6, v8, w8, w9, w10, w11, w12, w13, w14, w15] Q23 ∧ (∀ r24 : Int, ∀ v25 : ab_Ob, Q23 (some (ab_I r24)) [v25, w1, w2, w3, w4, v7, w6, v8, w8, w9, w10, w11, w12, w13, w14, w15] → Post (some (ab_I r24)) [v25, w1, w2, w3, w4, v7, w6, v8, w8, w9, w10, w11, w12, w13, w14, w15])))) ∧ ((a2 = 4 → ((0 ≤ a1 ∧ a1 < (v8.2 7).1) ∧ (∃ Q20 : Option ab_V → List ab_Ob → Prop, ab_Ct d 0 0 mX8_grant [ab_O 0, ab_I ((v8.2 7).2 a1)] [v6, w1, w2, w3, w4, v7, w6, v8, w8, w9, w10, w11, w12, w13, w14, w15] Q20 ∧ (∀ r21 : Int, ∀ v22 : ab_Ob, Q20 (some (ab_I r21)) [v22, w1, w2, w3, w4, v7, w6, v8, w8, w9, w10, w11, w12, w13, w14, w15] → Post (some (ab_I r21)) [v22, w1, w2, w3, w4, v7, w6, v8, w8, w9, w10, w11, w12, w13, w14, w15])))) ∧ ((a2 = 5 → (∃ Q15 : Option ab_V → List ab_Ob → Prop, ab_Ct d 0 0 mX7_breaksAt [ab_O 0, ab_O 1, ab_I a1] [v8, w3] Q15 ∧ (∀ r16 : Int, Q15 (some (ab_I r16)) [v8, w3] → (∃ Q17 : Option ab_V → List ab_Ob → Prop, ab_Ct d 0 0 mX8_grant [ab_O 0, ab_I r16] [v6, w1, w2, w3, w4, v7, w6, v8, w8, w9, w10, w11, w12, w13, w14, w15] Q17 ∧ (∀ r18 : Int, ∀ v19 : ab_Ob, Q17 (some (ab_I r18)) [v19, w1, w2, w3, w4, v7, w6, v8, w8, w9, w10, w11, w12, w13, w14, w15] → Post (some (ab_I r18)) [v19, w1, w2, w3, w4, v7, w6, v8, w8, w9, w10, w11, w12, w13, w14, w15]))))) ∧ ((a2 = 6 → ((0 ≤ a1 ∧ a1 < (v8.2 8).1) ∧ (∃ Q12 : Option ab_V → List ab_Ob → Prop, ab_Ct d 0 0 mX8_grant [ab_O 0, ab_I ((v8.2 8).2 a1)] [v6, w1, w2, w3, w4, v7, w6, v8, w8, w9, w10, w11, w12, w13, w14, w15] Q12 ∧ (∀ r13 : Int, ∀ v14 : ab_Ob, Q12 (some (ab_I r13)) [v14, w1, w2, w3, w4, v7, w6, v8, w8, w9, w10, w11, w12, w13, w14, w15] → Post (some (ab_I r13)) [v14, w1, w2, w3, w4, v7, w6, v8, w8, w9, w10, w11, w12, w13, w14, w15])))) ∧ True))))))))) ∧ (¬ a1 < (v8.1 2) → (∃ Q38 : Option ab_V → List ab_Ob → Prop, ab_Ct d 0 0 mX8_refuse [ab_O 0, ab_I 1] [v6, w1, w2, w3, w4, v7, w6, v8, w8, w9, w10, w11, w12, w13, w14, w15] Q38 ∧ (∀ r39 : Int, ∀ v40 : ab_Ob, Q38 (some (ab_I r39)) [v40, w1, w2, w3, w4, v7, w6, v8, w8, w9, w10, w11, w12, w13, w14, w15] → Post (some (ab_I r39)) [v40, w1, w2, w3, w4, v7, w6, v8, w8, w9, w10, w11, w12, w13, w14, w15]))))))))) ∧ (r2 = 0 → (∃ Q41 : Option ab_V → List ab_Ob → Prop, ab_Ct d 0 0 mX8_refuse [ab_O 0, ab_I 1] [w0, w1, w2, w3, w4, w5, w6, w7, w8, w9, w10, w11, w12, w13, w14, w15] Q41 ∧ (∀ r42 : Int, ∀ v43 : ab_Ob, Q41 (some (ab_I r42)) [v43, w1, w2, w3, w4, w5, w6, w7, w8, w9, w10, w11, w12, w13, w14, w15] → Post (some (ab_I r42)) [v43, w1, w2, w3, w4, w5, w6, w7, w8, w9, w10, w11, w12, w13, w14, w15]))))))) :
    ab_J x 0 [some (ab_O 0), some (ab_I a1), some (ab_I a2), none] [] [w0, w1, w2, w3, w4, w5, w6, w7, w8, w9, w10, w11, w12, w13, w14, w15] kc ks := ab_go hx kX8_joining.2 26 [] 0 h
def mX8_breaksOf : ab_M := ((yX8_breaksOf, cX8_breaksOf, 2, (some .int)), ([8, 4, 5, 5, 0, 1, 2, 7, 6, 1, 7, 7, 7, 7, 3, 3], [(0, 0), (0, 1), (0, 2), (0, 3), (0, 4), (0, 5), (0, 6), (0, 7), (0, 8), (0, 9), (0, 10), (0, 11), (0, 12), (0, 13), (0, 14), (0, 15)], [true, false, false, false, false, true, false, true, false, false, false, false, false, false, false, false], true, true, 0), (false, 8, 1))
def rX8_breaksOf : List ab_R := [(0, .aload_n 0, 1, 0, 0, 0, [], none),
  (1, .iload_n 1, 1, 0, 0, 0, [], none),
  (2, .invokevirtual 178, 3, 0, 0, 0, [], some mX8_hasRule),
  (5, .ifCond .ne 9, 3, 0, 0, 0, [14], none),
  (8, .aload_n 0, 1, 0, 0, 0, [], none),
  (9, .iconst 1, 1, 0, 0, 0, [], none),
  (10, .invokevirtual 101, 3, 0, 0, 0, [], some mX8_refuse),
  (13, .ireturn, 1, 0, 0, 0, [], none),
  (14, .aload_n 0, 1, 0, 0, 0, [], none),
  (15, .aload_n 0, 1, 0, 0, 0, [], none),
  (16, .getfield 23, 3, 8, 2, 0, [], none),
  (19, .getfield 181, 3, 5, 6, 0, [], none),
  (22, .iload_n 1, 1, 0, 0, 0, [], none),
  (23, .iaload, 1, 0, 0, 0, [], none),
  (24, .aload_n 0, 1, 0, 0, 0, [], none),
  (25, .invokevirtual 171, 3, 0, 0, 0, [], some mX8_freshTree),
  (28, .aload_n 0, 1, 0, 0, 0, [], none),
  (29, .getfield 23, 3, 8, 2, 0, [], none),
  (32, .iload_n 1, 1, 0, 0, 0, [], none),
  (33, .invokevirtual 256, 3, 0, 0, 0, [], some mX7_unitsOf),
  (36, .imul, 1, 0, 0, 0, [], none),
  (37, .invokevirtual 124, 3, 0, 0, 0, [], some mX8_grant),
  (40, .ireturn, 1, 0, 0, 0, [], none)]
set_option maxRecDepth 100000 in
theorem kX8_breaksOf : ab_def_ok mX8_breaksOf rX8_breaksOf := ⟨ab_mok_of 854 101 852 853 (by decide +kernel), [0, 0, 743, 0, 0, 0, 455, 0, 0, 0, 393, 162, 0, 0, 0, 656, 0, 393, 0, 855, 0, 620, 0], by decide +kernel⟩
set_option maxRecDepth 100000 in
theorem vX8_breaksOf_0 {x : ab_Cx} {d mc ms : Nat} {Post : Option ab_V → List ab_Ob → Prop} (hx : ab_At x mX8_breaksOf d mc ms Post) (a1 : Int) (w0 w1 w2 w3 w4 w5 w6 w7 w8 w9 w10 w11 w12 w13 w14 w15 : ab_Ob) (kc ks : Nat)
    (h : (∃ Q1 : Option ab_V → List ab_Ob → Prop, ab_Ct d 0 0 mX8_hasRule [ab_O 0, ab_I a1] [w0, w1, w2, w3, w4, w5, w6, w7, w8, w9, w10, w11, w12, w13, w14, w15] Q1 ∧ (∀ r2 : Int, Q1 (some (ab_I r2)) [w0, w1, w2, w3, w4, w5, w6, w7, w8, w9, w10, w11, w12, w13, w14, w15] → ((¬ r2 = 0 → ((0 ≤ a1 ∧ a1 < (w3.2 6).1) ∧ (∃ mc3 ms4 : Nat, (kc + mc3 ≤ mc ∧ ks + ms4 ≤ ms) ∧ ∃ Q5 : Option ab_V → List ab_Ob → Prop, ab_Ct d mc3 ms4 mX8_freshTree [ab_O 0] [w0, w1, w2, w3, w4, w5, w6, w7, w8, w9, w10, w11, w12, w13, w14, w15] Q5 ∧ (∀ v6 : ab_Ob, ∀ v7 : ab_Ob, ∀ v8 : ab_Ob, Q5 (some (ab_O 7)) [v6, w1, w2, w3, w4, v7, w6, v8, w8, w9, w10, w11, w12, w13, w14, w15] → (∃ Q9 : Option ab_V → List ab_Ob → Prop, ab_Ct d 0 0 mX7_unitsOf [ab_O 0, ab_O 1, ab_I a1] [v8, w3] Q9 ∧ (∀ r10 : Int, Q9 (some (ab_I r10)) [v8, w3] → ((-2147483648 ≤ ((w3.2 6).2 a1) * r10 ∧ ((w3.2 6).2 a1) * r10 ≤ 2147483647) ∧ (∃ Q11 : Option ab_V → List ab_Ob → Prop, ab_Ct d 0 0 mX8_grant [ab_O 0, ab_I (((w3.2 6).2 a1) * r10)] [v6, w1, w2, w3, w4, v7, w6, v8, w8, w9, w10, w11, w12, w13, w14, w15] Q11 ∧ (∀ r12 : Int, ∀ v13 : ab_Ob, Q11 (some (ab_I r12)) [v13, w1, w2, w3, w4, v7, w6, v8, w8, w9, w10, w11, w12, w13, w14, w15] → Post (some (ab_I r12)) [v13, w1, w2, w3, w4, v7, w6, v8, w8, w9, w10, w11, w12, w13, w14, w15]))))))))) ∧ (r2 = 0 → (∃ Q14 : Option ab_V → List ab_Ob → Prop, ab_Ct d 0 0 mX8_refuse [ab_O 0, ab_I 1] [w0, w1, w2, w3, w4, w5, w6, w7, w8, w9, w10, w11, w12, w13, w14, w15] Q14 ∧ (∀ r15 : Int, ∀ v16 : ab_Ob, Q14 (some (ab_I r15)) [v16, w1, w2, w3, w4, w5, w6, w7, w8, w9, w10, w11, w12, w13, w14, w15] → Post (some (ab_I r15)) [v16, w1, w2, w3, w4, w5, w6, w7, w8, w9, w10, w11, w12, w13, w14, w15]))))))) :
    ab_J x 0 [some (ab_O 0), some (ab_I a1)] [] [w0, w1, w2, w3, w4, w5, w6, w7, w8, w9, w10, w11, w12, w13, w14, w15] kc ks := ab_go hx kX8_breaksOf.2 23 [] 0 h
def mX8_deepest : ab_M := ((yX8_deepest, cX8_deepest, 1, (some .int)), ([8, 4, 5, 5, 0, 1, 2, 7, 6, 1, 7, 7, 7, 7, 3, 3], [(0, 0), (0, 1), (0, 2), (0, 3), (0, 4), (0, 5), (0, 6), (0, 7), (0, 8), (0, 9), (0, 10), (0, 11), (0, 12), (0, 13), (0, 14), (0, 15)], [true, false, false, false, false, true, false, true, false, false, false, false, false, false, false, false], true, true, 0), (false, 8, 0))
def rX8_deepest : List ab_R := [(0, .aload_n 0, 1, 0, 0, 0, [], none),
  (1, .invokevirtual 130, 3, 0, 0, 0, [], some mX8_hasPiece),
  (4, .ifCond .eq 17, 3, 0, 0, 0, [21], none),
  (7, .aload_n 0, 1, 0, 0, 0, [], none),
  (8, .aload_n 0, 1, 0, 0, 0, [], none),
  (9, .invokevirtual 171, 3, 0, 0, 0, [], some mX8_freshTree),
  (12, .invokevirtual 259, 3, 0, 0, 0, [], some mX7_greatestDepth),
  (15, .invokevirtual 124, 3, 0, 0, 0, [], some mX8_grant),
  (18, .goto 8, 3, 0, 0, 0, [26], none),
  (21, .aload_n 0, 1, 0, 0, 0, [], none),
  (22, .iconst 1, 1, 0, 0, 0, [], none),
  (23, .invokevirtual 101, 3, 0, 0, 0, [], some mX8_refuse),
  (26, .ireturn, 1, 0, 0, 0, [], none)]
set_option maxRecDepth 100000 in
theorem kX8_deepest : ab_def_ok mX8_deepest rX8_deepest := ⟨ab_mok_of 867 101 865 866 (by decide +kernel), [0, 636, 0, 0, 0, 656, 868, 620, 0, 0, 0, 455, 0], by decide +kernel⟩
set_option maxRecDepth 100000 in
theorem vX8_deepest_0 {x : ab_Cx} {d mc ms : Nat} {Post : Option ab_V → List ab_Ob → Prop} (hx : ab_At x mX8_deepest d mc ms Post) (w0 w1 w2 w3 w4 w5 w6 w7 w8 w9 w10 w11 w12 w13 w14 w15 : ab_Ob) (kc ks : Nat)
    (h : (∃ Q1 : Option ab_V → List ab_Ob → Prop, ab_Ct d 0 0 mX8_hasPiece [ab_O 0] [w0, w1, w2, w3, w4, w5, w6, w7, w8, w9, w10, w11, w12, w13, w14, w15] Q1 ∧ (∀ r2 : Int, Q1 (some (ab_I r2)) [w0, w1, w2, w3, w4, w5, w6, w7, w8, w9, w10, w11, w12, w13, w14, w15] → ((r2 = 0 → (∃ Q3 : Option ab_V → List ab_Ob → Prop, ab_Ct d 0 0 mX8_refuse [ab_O 0, ab_I 1] [w0, w1, w2, w3, w4, w5, w6, w7, w8, w9, w10, w11, w12, w13, w14, w15] Q3 ∧ (∀ r4 : Int, ∀ v5 : ab_Ob, Q3 (some (ab_I r4)) [v5, w1, w2, w3, w4, w5, w6, w7, w8, w9, w10, w11, w12, w13, w14, w15] → Post (some (ab_I r4)) [v5, w1, w2, w3, w4, w5, w6, w7, w8, w9, w10, w11, w12, w13, w14, w15]))) ∧ (¬ r2 = 0 → (∃ mc6 ms7 : Nat, (kc + mc6 ≤ mc ∧ ks + ms7 ≤ ms) ∧ ∃ Q8 : Option ab_V → List ab_Ob → Prop, ab_Ct d mc6 ms7 mX8_freshTree [ab_O 0] [w0, w1, w2, w3, w4, w5, w6, w7, w8, w9, w10, w11, w12, w13, w14, w15] Q8 ∧ (∀ v9 : ab_Ob, ∀ v10 : ab_Ob, ∀ v11 : ab_Ob, Q8 (some (ab_O 7)) [v9, w1, w2, w3, w4, v10, w6, v11, w8, w9, w10, w11, w12, w13, w14, w15] → (∃ Q12 : Option ab_V → List ab_Ob → Prop, ab_Ct d 0 0 mX7_greatestDepth [ab_O 0] [v11] Q12 ∧ (∀ r13 : Int, Q12 (some (ab_I r13)) [v11] → (∃ Q14 : Option ab_V → List ab_Ob → Prop, ab_Ct d 0 0 mX8_grant [ab_O 0, ab_I r13] [v9, w1, w2, w3, w4, v10, w6, v11, w8, w9, w10, w11, w12, w13, w14, w15] Q14 ∧ (∀ r15 : Int, ∀ v16 : ab_Ob, Q14 (some (ab_I r15)) [v16, w1, w2, w3, w4, v10, w6, v11, w8, w9, w10, w11, w12, w13, w14, w15] → Post (some (ab_I r15)) [v16, w1, w2, w3, w4, v10, w6, v11, w8, w9, w10, w11, w12, w13, w14, w15]))))))))))) :
    ab_J x 0 [some (ab_O 0)] [] [w0, w1, w2, w3, w4, w5, w6, w7, w8, w9, w10, w11, w12, w13, w14, w15] kc ks := ab_go hx kX8_deepest.2 14 [] 0 h
def mX8_cutLayer : ab_M := ((yX8_cutLayer, cX8_cutLayer, 4, (some .int)), ([8, 4, 5, 5, 0, 1, 2, 7, 6, 1, 7, 7, 7, 7, 3, 3], [(0, 0), (0, 1), (0, 2), (0, 3), (0, 4), (0, 5), (0, 6), (0, 7), (0, 8), (0, 9), (0, 10), (0, 11), (0, 12), (0, 13), (0, 14), (0, 15)], [true, false, false, false, false, true, false, true, false, false, false, false, false, false, false, true], true, true, 0), (false, 8, 2))
def rX8_cutLayer : List ab_R := [(0, .aload_n 0, 1, 0, 0, 0, [], none),
  (1, .invokevirtual 130, 3, 0, 0, 0, [], some mX8_hasPiece),
  (4, .ifCond .ne 5, 3, 0, 0, 0, [9], none),
  (7, .iconst 1, 1, 0, 0, 0, [], none),
  (8, .ireturn, 1, 0, 0, 0, [], none),
  (9, .aload_n 0, 1, 0, 0, 0, [], none),
  (10, .invokevirtual 171, 3, 0, 0, 0, [], some mX8_freshTree),
  (13, .astore_n 3, 1, 0, 0, 0, [], none),
  (14, .iload_n 2, 1, 0, 0, 0, [], none),
  (15, .ifCond .lt 11, 3, 0, 0, 0, [26], none),
  (18, .iload_n 2, 1, 0, 0, 0, [], none),
  (19, .aload_n 3, 1, 0, 0, 0, [], none),
  (20, .invokevirtual 259, 3, 0, 0, 0, [], some mX7_greatestDepth),
  (23, .if_icmp .le 5, 3, 0, 0, 0, [28], none),
  (26, .iconst 2, 1, 0, 0, 0, [], none),
  (27, .ireturn, 1, 0, 0, 0, [], none),
  (28, .aload_n 1, 1, 0, 0, 0, [], none),
  (29, .aload_n 3, 1, 0, 0, 0, [], none),
  (30, .iload_n 2, 1, 0, 0, 0, [], none),
  (31, .aload_n 0, 1, 0, 0, 0, [], none),
  (32, .getfield 23, 3, 8, 2, 0, [], none),
  (35, .getfield 121, 3, 5, 3, 0, [], none),
  (38, .invokevirtual 382, 3, 0, 0, 0, [], some mX3_cut),
  (41, .iconst 0, 1, 0, 0, 0, [], none),
  (42, .ireturn, 1, 0, 0, 0, [], none)]
set_option maxRecDepth 100000 in
theorem kX8_cutLayer : ab_def_ok mX8_cutLayer rX8_cutLayer := ⟨ab_mok_of 882 101 881 35 (by decide +kernel), [0, 636, 0, 0, 0, 0, 656, 0, 0, 0, 0, 0, 868, 0, 0, 0, 0, 0, 0, 0, 393, 150, 883, 0, 0], by decide +kernel⟩
set_option maxRecDepth 100000 in
theorem vX8_cutLayer_14_0 {x : ab_Cx} {d mc ms : Nat} {Post : Option ab_V → List ab_Ob → Prop} (hx : ab_At x mX8_cutLayer d mc ms Post) (a2 : Int) (w0 w1 w2 w3 w4 w5 w6 w7 w8 w9 w10 w11 w12 w13 w14 w15 : ab_Ob) (kc ks : Nat)
    (h : (∃ Q1 : Option ab_V → List ab_Ob → Prop, ab_Ct d 0 0 mX8_hasPiece [ab_O 0] [w0, w1, w2, w3, w4, w5, w6, w7, w8, w9, w10, w11, w12, w13, w14, w15] Q1 ∧ (∀ r2 : Int, Q1 (some (ab_I r2)) [w0, w1, w2, w3, w4, w5, w6, w7, w8, w9, w10, w11, w12, w13, w14, w15] → ((¬ r2 = 0 → (∃ mc3 ms4 : Nat, (kc + mc3 ≤ mc ∧ ks + ms4 ≤ ms) ∧ ∃ Q5 : Option ab_V → List ab_Ob → Prop, ab_Ct d mc3 ms4 mX8_freshTree [ab_O 0] [w0, w1, w2, w3, w4, w5, w6, w7, w8, w9, w10, w11, w12, w13, w14, w15] Q5 ∧ (∀ v6 : ab_Ob, ∀ v7 : ab_Ob, ∀ v8 : ab_Ob, Q5 (some (ab_O 7)) [v6, w1, w2, w3, w4, v7, w6, v8, w8, w9, w10, w11, w12, w13, w14, w15] → ((a2 < 0 → Post (some (ab_I 2)) [v6, w1, w2, w3, w4, v7, w6, v8, w8, w9, w10, w11, w12, w13, w14, w15]) ∧ (¬ a2 < 0 → (∃ Q9 : Option ab_V → List ab_Ob → Prop, ab_Ct d 0 0 mX7_greatestDepth [ab_O 0] [v8] Q9 ∧ (∀ r10 : Int, Q9 (some (ab_I r10)) [v8] → ((a2 ≤ r10 → (∃ Q11 : Option ab_V → List ab_Ob → Prop, ab_Ct d 0 0 mX3_cut [ab_O 0, ab_O 1, ab_I a2, ab_I (w3.1 3)] [w14, v8] Q11 ∧ (∀ v12 : ab_Ob, Q11 none [v12, v8] → Post (some (ab_I 0)) [v6, w1, w2, w3, w4, v7, w6, v8, w8, w9, w10, w11, w12, w13, v12, w15]))) ∧ (¬ a2 ≤ r10 → Post (some (ab_I 2)) [v6, w1, w2, w3, w4, v7, w6, v8, w8, w9, w10, w11, w12, w13, w14, w15]))))))))) ∧ (r2 = 0 → Post (some (ab_I 1)) [w0, w1, w2, w3, w4, w5, w6, w7, w8, w9, w10, w11, w12, w13, w14, w15]))))) :
    ab_J x 0 [some (ab_O 0), some (ab_O 14), some (ab_I a2), none] [] [w0, w1, w2, w3, w4, w5, w6, w7, w8, w9, w10, w11, w12, w13, w14, w15] kc ks := ab_go hx kX8_cutLayer.2 25 [] 0 h
set_option maxRecDepth 100000 in
theorem vX8_cutLayer_15_0 {x : ab_Cx} {d mc ms : Nat} {Post : Option ab_V → List ab_Ob → Prop} (hx : ab_At x mX8_cutLayer d mc ms Post) (a2 : Int) (w0 w1 w2 w3 w4 w5 w6 w7 w8 w9 w10 w11 w12 w13 w14 w15 : ab_Ob) (kc ks : Nat)
    (h : (∃ Q1 : Option ab_V → List ab_Ob → Prop, ab_Ct d 0 0 mX8_hasPiece [ab_O 0] [w0, w1, w2, w3, w4, w5, w6, w7, w8, w9, w10, w11, w12, w13, w14, w15] Q1 ∧ (∀ r2 : Int, Q1 (some (ab_I r2)) [w0, w1, w2, w3, w4, w5, w6, w7, w8, w9, w10, w11, w12, w13, w14, w15] → ((¬ r2 = 0 → (∃ mc3 ms4 : Nat, (kc + mc3 ≤ mc ∧ ks + ms4 ≤ ms) ∧ ∃ Q5 : Option ab_V → List ab_Ob → Prop, ab_Ct d mc3 ms4 mX8_freshTree [ab_O 0] [w0, w1, w2, w3, w4, w5, w6, w7, w8, w9, w10, w11, w12, w13, w14, w15] Q5 ∧ (∀ v6 : ab_Ob, ∀ v7 : ab_Ob, ∀ v8 : ab_Ob, Q5 (some (ab_O 7)) [v6, w1, w2, w3, w4, v7, w6, v8, w8, w9, w10, w11, w12, w13, w14, w15] → ((a2 < 0 → Post (some (ab_I 2)) [v6, w1, w2, w3, w4, v7, w6, v8, w8, w9, w10, w11, w12, w13, w14, w15]) ∧ (¬ a2 < 0 → (∃ Q9 : Option ab_V → List ab_Ob → Prop, ab_Ct d 0 0 mX7_greatestDepth [ab_O 0] [v8] Q9 ∧ (∀ r10 : Int, Q9 (some (ab_I r10)) [v8] → ((a2 ≤ r10 → (∃ Q11 : Option ab_V → List ab_Ob → Prop, ab_Ct d 0 0 mX3_cut [ab_O 0, ab_O 1, ab_I a2, ab_I (w3.1 3)] [w15, v8] Q11 ∧ (∀ v12 : ab_Ob, Q11 none [v12, v8] → Post (some (ab_I 0)) [v6, w1, w2, w3, w4, v7, w6, v8, w8, w9, w10, w11, w12, w13, w14, v12]))) ∧ (¬ a2 ≤ r10 → Post (some (ab_I 2)) [v6, w1, w2, w3, w4, v7, w6, v8, w8, w9, w10, w11, w12, w13, w14, w15]))))))))) ∧ (r2 = 0 → Post (some (ab_I 1)) [w0, w1, w2, w3, w4, w5, w6, w7, w8, w9, w10, w11, w12, w13, w14, w15]))))) :
    ab_J x 0 [some (ab_O 0), some (ab_O 15), some (ab_I a2), none] [] [w0, w1, w2, w3, w4, w5, w6, w7, w8, w9, w10, w11, w12, w13, w14, w15] kc ks := ab_go hx kX8_cutLayer.2 25 [] 0 h
def mX8_level : ab_M := ((yX8_level, cX8_level, 3, (some .int)), ([8, 4, 5, 5, 0, 1, 2, 7, 6, 1, 7, 7, 7, 7, 3, 3], [(0, 0), (0, 1), (0, 2), (0, 3), (0, 4), (0, 5), (0, 6), (0, 7), (0, 8), (0, 9), (0, 10), (0, 11), (0, 12), (0, 13), (0, 14), (0, 15)], [true, false, false, false, false, true, false, true, false, false, false, false, false, false, false, true], true, true, 0), (false, 8, 1))
def rX8_level : List ab_R := [(0, .aload_n 0, 1, 0, 0, 0, [], none),
  (1, .aload_n 0, 1, 0, 0, 0, [], none),
  (2, .getfield 87, 3, 8, 15, 0, [], none),
  (5, .iload_n 1, 1, 0, 0, 0, [], none),
  (6, .invokevirtual 262, 3, 0, 0, 0, [], some mX8_cutLayer),
  (9, .istore_n 2, 1, 0, 0, 0, [], none),
  (10, .iload_n 2, 1, 0, 0, 0, [], none),
  (11, .ifCond .ne 17, 3, 0, 0, 0, [28], none),
  (14, .aload_n 0, 1, 0, 0, 0, [], none),
  (15, .aload_n 0, 1, 0, 0, 0, [], none),
  (16, .getfield 87, 3, 8, 15, 0, [], none),
  (19, .getfield 266, 3, 3, 0, 0, [], none),
  (22, .invokevirtual 124, 3, 0, 0, 0, [], some mX8_grant),
  (25, .goto 8, 3, 0, 0, 0, [33], none),
  (28, .aload_n 0, 1, 0, 0, 0, [], none),
  (29, .iload_n 2, 1, 0, 0, 0, [], none),
  (30, .invokevirtual 101, 3, 0, 0, 0, [], some mX8_refuse),
  (33, .ireturn, 1, 0, 0, 0, [], none)]
set_option maxRecDepth 100000 in
theorem kX8_level : ab_def_ok mX8_level rX8_level := ⟨ab_mok_of 878 101 876 877 (by decide +kernel), [0, 0, 406, 0, 879, 0, 0, 0, 0, 0, 406, 375, 620, 0, 0, 0, 455, 0], by decide +kernel⟩
set_option maxRecDepth 100000 in
theorem vX8_level_0 {x : ab_Cx} {d mc ms : Nat} {Post : Option ab_V → List ab_Ob → Prop} (hx : ab_At x mX8_level d mc ms Post) (a1 : Int) (w0 w1 w2 w3 w4 w5 w6 w7 w8 w9 w10 w11 w12 w13 w14 w15 : ab_Ob) (kc ks : Nat)
    (h : (∃ mc1 ms2 : Nat, (kc + mc1 ≤ mc ∧ ks + ms2 ≤ ms) ∧ ∃ Q3 : Option ab_V → List ab_Ob → Prop, ab_Ct d mc1 ms2 mX8_cutLayer [ab_O 0, ab_O 14, ab_I a1] [w0, w1, w2, w3, w4, w5, w6, w7, w8, w9, w10, w11, w12, w13, w14, w15] Q3 ∧ (∀ r4 : Int, ∀ v5 : ab_Ob, ∀ v6 : ab_Ob, ∀ v7 : ab_Ob, ∀ v8 : ab_Ob, Q3 (some (ab_I r4)) [v5, w1, w2, w3, w4, v6, w6, v7, w8, w9, w10, w11, w12, w13, w14, v8] → ((¬ r4 = 0 → (∃ Q9 : Option ab_V → List ab_Ob → Prop, ab_Ct d 0 0 mX8_refuse [ab_O 0, ab_I r4] [v5, w1, w2, w3, w4, v6, w6, v7, w8, w9, w10, w11, w12, w13, w14, v8] Q9 ∧ (∀ r10 : Int, ∀ v11 : ab_Ob, Q9 (some (ab_I r10)) [v11, w1, w2, w3, w4, v6, w6, v7, w8, w9, w10, w11, w12, w13, w14, v8] → Post (some (ab_I r10)) [v11, w1, w2, w3, w4, v6, w6, v7, w8, w9, w10, w11, w12, w13, w14, v8]))) ∧ (r4 = 0 → (∃ Q12 : Option ab_V → List ab_Ob → Prop, ab_Ct d 0 0 mX8_grant [ab_O 0, ab_I (w14.1 0)] [v5, w1, w2, w3, w4, v6, w6, v7, w8, w9, w10, w11, w12, w13, w14, v8] Q12 ∧ (∀ r13 : Int, ∀ v14 : ab_Ob, Q12 (some (ab_I r13)) [v14, w1, w2, w3, w4, v6, w6, v7, w8, w9, w10, w11, w12, w13, w14, v8] → Post (some (ab_I r13)) [v14, w1, w2, w3, w4, v6, w6, v7, w8, w9, w10, w11, w12, w13, w14, v8]))))))) :
    ab_J x 0 [some (ab_O 0), some (ab_I a1), none] [] [w0, w1, w2, w3, w4, w5, w6, w7, w8, w9, w10, w11, w12, w13, w14, w15] kc ks := ab_go hx kX8_level.2 19 [] 0 h
def mX8_levelNote : ab_M := ((yX8_levelNote, cX8_levelNote, 5, (some .int)), ([8, 4, 5, 5, 0, 1, 2, 7, 6, 1, 7, 7, 7, 7, 3, 3], [(0, 0), (0, 1), (0, 2), (0, 3), (0, 4), (0, 5), (0, 6), (0, 7), (0, 8), (0, 9), (0, 10), (0, 11), (0, 12), (0, 13), (0, 14), (0, 15)], [true, false, false, false, false, true, false, true, false, false, false, false, false, false, false, true], true, true, 0), (false, 8, 3))
def rX8_levelNote : List ab_R := [(0, .aload_n 0, 1, 0, 0, 0, [], none),
  (1, .aload_n 0, 1, 0, 0, 0, [], none),
  (2, .getfield 87, 3, 8, 15, 0, [], none),
  (5, .iload_n 1, 1, 0, 0, 0, [], none),
  (6, .invokevirtual 262, 3, 0, 0, 0, [], some mX8_cutLayer),
  (9, .istore 4, 2, 0, 0, 0, [], none),
  (11, .iload 4, 2, 0, 0, 0, [], none),
  (13, .ifCond .eq 10, 3, 0, 0, 0, [23], none),
  (16, .aload_n 0, 1, 0, 0, 0, [], none),
  (17, .iload 4, 2, 0, 0, 0, [], none),
  (19, .invokevirtual 101, 3, 0, 0, 0, [], some mX8_refuse),
  (22, .ireturn, 1, 0, 0, 0, [], none),
  (23, .iload_n 2, 1, 0, 0, 0, [], none),
  (24, .ifCond .lt 14, 3, 0, 0, 0, [38], none),
  (27, .iload_n 2, 1, 0, 0, 0, [], none),
  (28, .aload_n 0, 1, 0, 0, 0, [], none),
  (29, .getfield 87, 3, 8, 15, 0, [], none),
  (32, .getfield 266, 3, 3, 0, 0, [], none),
  (35, .if_icmp .lt 9, 3, 0, 0, 0, [44], none),
  (38, .aload_n 0, 1, 0, 0, 0, [], none),
  (39, .iconst 1, 1, 0, 0, 0, [], none),
  (40, .invokevirtual 101, 3, 0, 0, 0, [], some mX8_refuse),
  (43, .ireturn, 1, 0, 0, 0, [], none),
  (44, .iload_n 3, 1, 0, 0, 0, [], none),
  (45, .tableswitch 93 0 2 #[27, 41, 63], 27, 0, 0, 0, [138, 72, 86, 108], none),
  (72, .aload_n 0, 1, 0, 0, 0, [], none),
  (73, .aload_n 0, 1, 0, 0, 0, [], none),
  (74, .getfield 87, 3, 8, 15, 0, [], none),
  (77, .getfield 267, 3, 3, 1, 0, [], none),
  (80, .iload_n 2, 1, 0, 0, 0, [], none),
  (81, .iaload, 1, 0, 0, 0, [], none),
  (82, .invokevirtual 124, 3, 0, 0, 0, [], some mX8_grant),
  (85, .ireturn, 1, 0, 0, 0, [], none),
  (86, .aload_n 0, 1, 0, 0, 0, [], none),
  (87, .aload_n 0, 1, 0, 0, 0, [], none),
  (88, .getfield 23, 3, 8, 2, 0, [], none),
  (91, .getfield 162, 3, 5, 7, 0, [], none),
  (94, .aload_n 0, 1, 0, 0, 0, [], none),
  (95, .getfield 87, 3, 8, 15, 0, [], none),
  (98, .getfield 270, 3, 3, 2, 0, [], none),
  (101, .iload_n 2, 1, 0, 0, 0, [], none),
  (102, .iaload, 1, 0, 0, 0, [], none),
  (103, .iaload, 1, 0, 0, 0, [], none),
  (104, .invokevirtual 124, 3, 0, 0, 0, [], some mX8_grant),
  (107, .ireturn, 1, 0, 0, 0, [], none),
  (108, .aload_n 0, 1, 0, 0, 0, [], none),
  (109, .aload_n 0, 1, 0, 0, 0, [], none),
  (110, .getfield 23, 3, 8, 2, 0, [], none),
  (113, .aload_n 0, 1, 0, 0, 0, [], none),
  (114, .getfield 87, 3, 8, 15, 0, [], none),
  (117, .getfield 270, 3, 3, 2, 0, [], none),
  (120, .iload_n 2, 1, 0, 0, 0, [], none),
  (121, .iaload, 1, 0, 0, 0, [], none),
  (122, .aload_n 0, 1, 0, 0, 0, [], none),
  (123, .getfield 87, 3, 8, 15, 0, [], none),
  (126, .getfield 271, 3, 3, 3, 0, [], none),
  (129, .iload_n 2, 1, 0, 0, 0, [], none),
  (130, .iaload, 1, 0, 0, 0, [], none),
  (131, .invokevirtual 143, 3, 0, 0, 0, [], some mX5_lasting),
  (134, .invokevirtual 124, 3, 0, 0, 0, [], some mX8_grant),
  (137, .ireturn, 1, 0, 0, 0, [], none),
  (138, .aload_n 0, 1, 0, 0, 0, [], none),
  (139, .iconst 1, 1, 0, 0, 0, [], none),
  (140, .invokevirtual 101, 3, 0, 0, 0, [], some mX8_refuse),
  (143, .ireturn, 1, 0, 0, 0, [], none)]
set_option maxRecDepth 100000 in
theorem kX8_levelNote : ab_def_ok mX8_levelNote rX8_levelNote := ⟨ab_mok_of 890 101 888 889 (by decide +kernel), [0, 0, 406, 0, 879, 0, 0, 0, 0, 0, 455, 0, 0, 0, 0, 0, 406, 375, 0, 0, 0, 455, 0, 0, 0, 0, 0, 406, 377, 0, 0, 620, 0, 0, 0, 393, 165, 0, 406, 379, 0, 0, 0, 620, 0, 0, 0, 393, 0, 406, 379, 0, 0, 0, 406, 381, 0, 0, 640, 620, 0, 0, 0, 455, 0], by decide +kernel⟩
set_option maxRecDepth 100000 in
theorem vX8_levelNote_0 {x : ab_Cx} {d mc ms : Nat} {Post : Option ab_V → List ab_Ob → Prop} (hx : ab_At x mX8_levelNote d mc ms Post) (a1 a2 a3 : Int) (w0 w1 w2 w3 w4 w5 w6 w7 w8 w9 w10 w11 w12 w13 w14 w15 : ab_Ob) (kc ks : Nat)
    (h : (∃ mc1 ms2 : Nat, (kc + mc1 ≤ mc ∧ ks + ms2 ≤ ms) ∧ ∃ Q3 : Option ab_V → List ab_Ob → Prop, ab_Ct d mc1 ms2 mX8_cutLayer [ab_O 0, ab_O 14, ab_I a1] [w0, w1, w2, w3, w4, w5, w6, w7, w8, w9, w10, w11, w12, w13, w14, w15] Q3 ∧ (∀ r4 : Int, ∀ v5 : ab_Ob, ∀ v6 : ab_Ob, ∀ v7 : ab_Ob, ∀ v8 : ab_Ob, Q3 (some (ab_I r4)) [v5, w1, w2, w3, w4, v6, w6, v7, w8, w9, w10, w11, w12, w13, w14, v8] → ((r4 = 0 → ((a2 < 0 → (∃ Q9 : Option ab_V → List ab_Ob → Prop, ab_Ct d 0 0 mX8_refuse [ab_O 0, ab_I 1] [v5, w1, w2, w3, w4, v6, w6, v7, w8, w9, w10, w11, w12, w13, w14, v8] Q9 ∧ (∀ r10 : Int, ∀ v11 : ab_Ob, Q9 (some (ab_I r10)) [v11, w1, w2, w3, w4, v6, w6, v7, w8, w9, w10, w11, w12, w13, w14, v8] → Post (some (ab_I r10)) [v11, w1, w2, w3, w4, v6, w6, v7, w8, w9, w10, w11, w12, w13, w14, v8]))) ∧ (¬ a2 < 0 → ((a2 < (w14.1 0) → ((a3 < 0 ∨ 2 < a3 → (∃ Q23 : Option ab_V → List ab_Ob → Prop, ab_Ct d 0 0 mX8_refuse [ab_O 0, ab_I 1] [v5, w1, w2, w3, w4, v6, w6, v7, w8, w9, w10, w11, w12, w13, w14, v8] Q23 ∧ (∀ r24 : Int, ∀ v25 : ab_Ob, Q23 (some (ab_I r24)) [v25, w1, w2, w3, w4, v6, w6, v7, w8, w9, w10, w11, w12, w13, w14, v8] → Post (some (ab_I r24)) [v25, w1, w2, w3, w4, v6, w6, v7, w8, w9, w10, w11, w12, w13, w14, v8]))) ∧ ((a3 = 0 → ((0 ≤ a2 ∧ a2 < (w14.2 1).1) ∧ (∃ Q20 : Option ab_V → List ab_Ob → Prop, ab_Ct d 0 0 mX8_grant [ab_O 0, ab_I ((w14.2 1).2 a2)] [v5, w1, w2, w3, w4, v6, w6, v7, w8, w9, w10, w11, w12, w13, w14, v8] Q20 ∧ (∀ r21 : Int, ∀ v22 : ab_Ob, Q20 (some (ab_I r21)) [v22, w1, w2, w3, w4, v6, w6, v7, w8, w9, w10, w11, w12, w13, w14, v8] → Post (some (ab_I r21)) [v22, w1, w2, w3, w4, v6, w6, v7, w8, w9, w10, w11, w12, w13, w14, v8])))) ∧ ((a3 = 1 → ((0 ≤ a2 ∧ a2 < (w14.2 2).1) ∧ ((0 ≤ ((w14.2 2).2 a2) ∧ ((w14.2 2).2 a2) < (w3.2 7).1) ∧ (∃ Q17 : Option ab_V → List ab_Ob → Prop, ab_Ct d 0 0 mX8_grant [ab_O 0, ab_I ((w3.2 7).2 ((w14.2 2).2 a2))] [v5, w1, w2, w3, w4, v6, w6, v7, w8, w9, w10, w11, w12, w13, w14, v8] Q17 ∧ (∀ r18 : Int, ∀ v19 : ab_Ob, Q17 (some (ab_I r18)) [v19, w1, w2, w3, w4, v6, w6, v7, w8, w9, w10, w11, w12, w13, w14, v8] → Post (some (ab_I r18)) [v19, w1, w2, w3, w4, v6, w6, v7, w8, w9, w10, w11, w12, w13, w14, v8]))))) ∧ ((a3 = 2 → ((0 ≤ a2 ∧ a2 < (w14.2 2).1) ∧ ((0 ≤ a2 ∧ a2 < (w14.2 3).1) ∧ (∃ Q12 : Option ab_V → List ab_Ob → Prop, ab_Ct d 0 0 mX5_lasting [ab_O 0, ab_I ((w14.2 2).2 a2), ab_I ((w14.2 3).2 a2)] [w3] Q12 ∧ (∀ r13 : Int, Q12 (some (ab_I r13)) [w3] → (∃ Q14 : Option ab_V → List ab_Ob → Prop, ab_Ct d 0 0 mX8_grant [ab_O 0, ab_I r13] [v5, w1, w2, w3, w4, v6, w6, v7, w8, w9, w10, w11, w12, w13, w14, v8] Q14 ∧ (∀ r15 : Int, ∀ v16 : ab_Ob, Q14 (some (ab_I r15)) [v16, w1, w2, w3, w4, v6, w6, v7, w8, w9, w10, w11, w12, w13, w14, v8] → Post (some (ab_I r15)) [v16, w1, w2, w3, w4, v6, w6, v7, w8, w9, w10, w11, w12, w13, w14, v8]))))))) ∧ True))))) ∧ (¬ a2 < (w14.1 0) → (∃ Q26 : Option ab_V → List ab_Ob → Prop, ab_Ct d 0 0 mX8_refuse [ab_O 0, ab_I 1] [v5, w1, w2, w3, w4, v6, w6, v7, w8, w9, w10, w11, w12, w13, w14, v8] Q26 ∧ (∀ r27 : Int, ∀ v28 : ab_Ob, Q26 (some (ab_I r27)) [v28, w1, w2, w3, w4, v6, w6, v7, w8, w9, w10, w11, w12, w13, w14, v8] → Post (some (ab_I r27)) [v28, w1, w2, w3, w4, v6, w6, v7, w8, w9, w10, w11, w12, w13, w14, v8]))))))) ∧ (¬ r4 = 0 → (∃ Q29 : Option ab_V → List ab_Ob → Prop, ab_Ct d 0 0 mX8_refuse [ab_O 0, ab_I r4] [v5, w1, w2, w3, w4, v6, w6, v7, w8, w9, w10, w11, w12, w13, w14, v8] Q29 ∧ (∀ r30 : Int, ∀ v31 : ab_Ob, Q29 (some (ab_I r30)) [v31, w1, w2, w3, w4, v6, w6, v7, w8, w9, w10, w11, w12, w13, w14, v8] → Post (some (ab_I r30)) [v31, w1, w2, w3, w4, v6, w6, v7, w8, w9, w10, w11, w12, w13, w14, v8]))))))) :
    ab_J x 0 [some (ab_O 0), some (ab_I a1), some (ab_I a2), some (ab_I a3), none] [] [w0, w1, w2, w3, w4, w5, w6, w7, w8, w9, w10, w11, w12, w13, w14, w15] kc ks := ab_go hx kX8_levelNote.2 37 [] 0 h
def mX8_path : ab_M := ((yX8_path, cX8_path, 5, (some .int)), ([8, 4, 5, 5, 0, 1, 2, 7, 6, 1, 7, 7, 7, 7, 3, 3], [(0, 0), (0, 1), (0, 2), (0, 3), (0, 4), (0, 5), (0, 6), (0, 7), (0, 8), (0, 9), (0, 10), (0, 11), (0, 12), (0, 13), (0, 14), (0, 15)], [true, false, false, false, false, true, false, true, false, false, false, false, false, false, false, true], true, true, 0), (false, 8, 1))
def rX8_path : List ab_R := [(0, .aload_n 0, 1, 0, 0, 0, [], none),
  (1, .aload_n 0, 1, 0, 0, 0, [], none),
  (2, .getfield 87, 3, 8, 15, 0, [], none),
  (5, .iload_n 1, 1, 0, 0, 0, [], none),
  (6, .invokevirtual 262, 3, 0, 0, 0, [], some mX8_cutLayer),
  (9, .istore_n 2, 1, 0, 0, 0, [], none),
  (10, .iload_n 2, 1, 0, 0, 0, [], none),
  (11, .ifCond .eq 9, 3, 0, 0, 0, [20], none),
  (14, .aload_n 0, 1, 0, 0, 0, [], none),
  (15, .iload_n 2, 1, 0, 0, 0, [], none),
  (16, .invokevirtual 101, 3, 0, 0, 0, [], some mX8_refuse),
  (19, .ireturn, 1, 0, 0, 0, [], none),
  (20, .iconst 0, 1, 0, 0, 0, [], none),
  (21, .istore_n 3, 1, 0, 0, 0, [], none),
  (22, .iconst 0, 1, 0, 0, 0, [], none),
  (23, .istore 4, 2, 0, 0, 0, [], none),
  (25, .iload 4, 2, 0, 0, 0, [], none),
  (27, .iconst 1, 1, 0, 0, 0, [], none),
  (28, .iadd, 1, 0, 0, 0, [], none),
  (29, .aload_n 0, 1, 0, 0, 0, [], none),
  (30, .getfield 87, 3, 8, 15, 0, [], none),
  (33, .getfield 266, 3, 3, 0, 0, [], none),
  (36, .if_icmp .ge 28, 3, 0, 0, 0, [64], none),
  (39, .iload_n 3, 1, 0, 0, 0, [], none),
  (40, .aload_n 0, 1, 0, 0, 0, [], none),
  (41, .getfield 87, 3, 8, 15, 0, [], none),
  (44, .aload_n 0, 1, 0, 0, 0, [], none),
  (45, .getfield 23, 3, 8, 2, 0, [], none),
  (48, .iload 4, 2, 0, 0, 0, [], none),
  (50, .invokevirtual 272, 3, 0, 0, 0, [], some mX3_stepFrom),
  (53, .invokestatic 275, 3, 0, 0, 12, [], none),
  (56, .iadd, 1, 0, 0, 0, [], none),
  (57, .istore_n 3, 1, 0, 0, 0, [], none),
  (58, .iinc 4 1, 3, 0, 0, 0, [], none),
  (61, .goto (-36), 3, 0, 0, 0, [25], none),
  (64, .aload_n 0, 1, 0, 0, 0, [], none),
  (65, .iload_n 3, 1, 0, 0, 0, [], none),
  (66, .invokevirtual 124, 3, 0, 0, 0, [], some mX8_grant),
  (69, .ireturn, 1, 0, 0, 0, [], none)]
set_option maxRecDepth 100000 in
theorem kX8_path : ab_def_ok mX8_path rX8_path := ⟨ab_mok_of 894 101 892 893 (by decide +kernel), [0, 0, 406, 0, 879, 0, 0, 0, 0, 0, 455, 0, 0, 0, 0, 0, 0, 0, 0, 0, 406, 375, 0, 0, 0, 406, 0, 393, 0, 895, 899, 0, 0, 0, 0, 0, 0, 620, 0], by decide +kernel⟩
set_option maxRecDepth 100000 in
theorem vX8_path_0 {x : ab_Cx} {d mc ms : Nat} {Post : Option ab_V → List ab_Ob → Prop} (hx : ab_At x mX8_path d mc ms Post) (a1 : Int) (w0 w1 w2 w3 w4 w5 w6 w7 w8 w9 w10 w11 w12 w13 w14 w15 : ab_Ob) (kc ks : Nat)
    (h : (∃ mc1 ms2 : Nat, (kc + mc1 ≤ mc ∧ ks + ms2 ≤ ms) ∧ ∃ Q3 : Option ab_V → List ab_Ob → Prop, ab_Ct d mc1 ms2 mX8_cutLayer [ab_O 0, ab_O 14, ab_I a1] [w0, w1, w2, w3, w4, w5, w6, w7, w8, w9, w10, w11, w12, w13, w14, w15] Q3 ∧ (∀ r4 : Int, ∀ v5 : ab_Ob, ∀ v6 : ab_Ob, ∀ v7 : ab_Ob, ∀ v8 : ab_Ob, Q3 (some (ab_I r4)) [v5, w1, w2, w3, w4, v6, w6, v7, w8, w9, w10, w11, w12, w13, w14, v8] → ((r4 = 0 → ab_J x 25 [some (ab_O 0), none, none, some (ab_I 0), some (ab_I 0)] [] [v5, w1, w2, w3, w4, v6, w6, v7, w8, w9, w10, w11, w12, w13, w14, v8] (kc + mc1) (ks + ms2)) ∧ (¬ r4 = 0 → (∃ Q9 : Option ab_V → List ab_Ob → Prop, ab_Ct d 0 0 mX8_refuse [ab_O 0, ab_I r4] [v5, w1, w2, w3, w4, v6, w6, v7, w8, w9, w10, w11, w12, w13, w14, v8] Q9 ∧ (∀ r10 : Int, ∀ v11 : ab_Ob, Q9 (some (ab_I r10)) [v11, w1, w2, w3, w4, v6, w6, v7, w8, w9, w10, w11, w12, w13, w14, v8] → Post (some (ab_I r10)) [v11, w1, w2, w3, w4, v6, w6, v7, w8, w9, w10, w11, w12, w13, w14, v8]))))))) :
    ab_J x 0 [some (ab_O 0), some (ab_I a1), none, none, none] [] [w0, w1, w2, w3, w4, w5, w6, w7, w8, w9, w10, w11, w12, w13, w14, w15] kc ks := ab_go hx kX8_path.2 17 [(25, [true, false, false, true, true])] 0 h
set_option maxRecDepth 100000 in
theorem vX8_path_25 {x : ab_Cx} {d mc ms : Nat} {Post : Option ab_V → List ab_Ob → Prop} (hx : ab_At x mX8_path d mc ms Post) (l3 l4 : Int) (w0 w1 w2 w3 w4 w5 w6 w7 w8 w9 w10 w11 w12 w13 w14 w15 : ab_Ob) (kc ks : Nat)
    (h : ((-2147483648 ≤ l4 + 1 ∧ l4 + 1 ≤ 2147483647) ∧ (((w14.1 0) ≤ (l4 + 1) → (∃ Q1 : Option ab_V → List ab_Ob → Prop, ab_Ct d 0 0 mX8_grant [ab_O 0, ab_I l3] [w0, w1, w2, w3, w4, w5, w6, w7, w8, w9, w10, w11, w12, w13, w14, w15] Q1 ∧ (∀ r2 : Int, ∀ v3 : ab_Ob, Q1 (some (ab_I r2)) [v3, w1, w2, w3, w4, w5, w6, w7, w8, w9, w10, w11, w12, w13, w14, w15] → Post (some (ab_I r2)) [v3, w1, w2, w3, w4, w5, w6, w7, w8, w9, w10, w11, w12, w13, w14, w15]))) ∧ (¬ (w14.1 0) ≤ (l4 + 1) → (∃ Q4 : Option ab_V → List ab_Ob → Prop, ab_Ct d 0 0 mX3_stepFrom [ab_O 0, ab_O 1, ab_I l4] [w14, w3] Q4 ∧ (∀ r5 : Int, Q4 (some (ab_I r5)) [w14, w3] → ((-2147483648 ≤ -r5 ∧ -r5 ≤ 2147483647) ∧ ((-2147483648 ≤ l3 + (if 0 ≤ r5 then r5 else 0 - r5) ∧ l3 + (if 0 ≤ r5 then r5 else 0 - r5) ≤ 2147483647) ∧ ((-2147483648 ≤ l4 + 1 ∧ l4 + 1 ≤ 2147483647) ∧ ab_J x 25 [some (ab_O 0), none, none, some (ab_I (l3 + (if 0 ≤ r5 then r5 else 0 - r5))), some (ab_I (l4 + 1))] [] [w0, w1, w2, w3, w4, w5, w6, w7, w8, w9, w10, w11, w12, w13, w14, w15] kc ks))))))))) :
    ab_J x 25 [some (ab_O 0), none, none, some (ab_I l3), some (ab_I l4)] [] [w0, w1, w2, w3, w4, w5, w6, w7, w8, w9, w10, w11, w12, w13, w14, w15] kc ks := ab_go hx kX8_path.2 24 [(25, [true, false, false, true, true])] 25 h
def mX8_reach : ab_M := ((yX8_reach, cX8_reach, 4, (some .int)), ([8, 4, 5, 5, 0, 1, 2, 7, 6, 1, 7, 7, 7, 7, 3, 3], [(0, 0), (0, 1), (0, 2), (0, 3), (0, 4), (0, 5), (0, 6), (0, 7), (0, 8), (0, 9), (0, 10), (0, 11), (0, 12), (0, 13), (0, 14), (0, 15)], [true, false, false, false, false, true, false, true, false, false, false, false, false, false, false, false], true, true, 0), (false, 8, 2))
def rX8_reach : List ab_R := [(0, .aload_n 0, 1, 0, 0, 0, [], none),
  (1, .iload_n 1, 1, 0, 0, 0, [], none),
  (2, .invokevirtual 151, 3, 0, 0, 0, [], some mX8_hasNote),
  (5, .ifCond .ne 9, 3, 0, 0, 0, [14], none),
  (8, .aload_n 0, 1, 0, 0, 0, [], none),
  (9, .iconst 1, 1, 0, 0, 0, [], none),
  (10, .invokevirtual 101, 3, 0, 0, 0, [], some mX8_refuse),
  (13, .ireturn, 1, 0, 0, 0, [], none),
  (14, .aload_n 0, 1, 0, 0, 0, [], none),
  (15, .invokevirtual 171, 3, 0, 0, 0, [], some mX8_freshTree),
  (18, .astore_n 3, 1, 0, 0, 0, [], none),
  (19, .iload_n 2, 1, 0, 0, 0, [], none),
  (20, .tableswitch 58 0 2 #[28, 38, 48], 28, 0, 0, 0, [78, 48, 58, 68], none),
  (48, .aload_n 0, 1, 0, 0, 0, [], none),
  (49, .aload_n 3, 1, 0, 0, 0, [], none),
  (50, .iload_n 1, 1, 0, 0, 0, [], none),
  (51, .invokevirtual 278, 3, 0, 0, 0, [], some mX7_partFirst),
  (54, .invokevirtual 124, 3, 0, 0, 0, [], some mX8_grant),
  (57, .ireturn, 1, 0, 0, 0, [], none),
  (58, .aload_n 0, 1, 0, 0, 0, [], none),
  (59, .aload_n 3, 1, 0, 0, 0, [], none),
  (60, .iload_n 1, 1, 0, 0, 0, [], none),
  (61, .invokevirtual 281, 3, 0, 0, 0, [], some mX7_partLast),
  (64, .invokevirtual 124, 3, 0, 0, 0, [], some mX8_grant),
  (67, .ireturn, 1, 0, 0, 0, [], none),
  (68, .aload_n 0, 1, 0, 0, 0, [], none),
  (69, .aload_n 3, 1, 0, 0, 0, [], none),
  (70, .iload_n 1, 1, 0, 0, 0, [], none),
  (71, .invokevirtual 284, 3, 0, 0, 0, [], some mX7_noteOver),
  (74, .invokevirtual 124, 3, 0, 0, 0, [], some mX8_grant),
  (77, .ireturn, 1, 0, 0, 0, [], none),
  (78, .aload_n 0, 1, 0, 0, 0, [], none),
  (79, .iconst 1, 1, 0, 0, 0, [], none),
  (80, .invokevirtual 101, 3, 0, 0, 0, [], some mX8_refuse),
  (83, .ireturn, 1, 0, 0, 0, [], none)]
set_option maxRecDepth 100000 in
theorem kX8_reach : ab_def_ok mX8_reach rX8_reach := ⟨ab_mok_of 903 101 901 902 (by decide +kernel), [0, 0, 652, 0, 0, 0, 455, 0, 0, 656, 0, 0, 0, 0, 0, 0, 904, 620, 0, 0, 0, 0, 908, 620, 0, 0, 0, 0, 912, 620, 0, 0, 0, 455, 0], by decide +kernel⟩
set_option maxRecDepth 100000 in
theorem vX8_reach_0 {x : ab_Cx} {d mc ms : Nat} {Post : Option ab_V → List ab_Ob → Prop} (hx : ab_At x mX8_reach d mc ms Post) (a1 a2 : Int) (w0 w1 w2 w3 w4 w5 w6 w7 w8 w9 w10 w11 w12 w13 w14 w15 : ab_Ob) (kc ks : Nat)
    (h : (∃ Q1 : Option ab_V → List ab_Ob → Prop, ab_Ct d 0 0 mX8_hasNote [ab_O 0, ab_I a1] [w0, w1, w2, w3, w4, w5, w6, w7, w8, w9, w10, w11, w12, w13, w14, w15] Q1 ∧ (∀ r2 : Int, Q1 (some (ab_I r2)) [w0, w1, w2, w3, w4, w5, w6, w7, w8, w9, w10, w11, w12, w13, w14, w15] → ((¬ r2 = 0 → (∃ mc3 ms4 : Nat, (kc + mc3 ≤ mc ∧ ks + ms4 ≤ ms) ∧ ∃ Q5 : Option ab_V → List ab_Ob → Prop, ab_Ct d mc3 ms4 mX8_freshTree [ab_O 0] [w0, w1, w2, w3, w4, w5, w6, w7, w8, w9, w10, w11, w12, w13, w14, w15] Q5 ∧ (∀ v6 : ab_Ob, ∀ v7 : ab_Ob, ∀ v8 : ab_Ob, Q5 (some (ab_O 7)) [v6, w1, w2, w3, w4, v7, w6, v8, w8, w9, w10, w11, w12, w13, w14, w15] → ((a2 < 0 ∨ 2 < a2 → (∃ Q24 : Option ab_V → List ab_Ob → Prop, ab_Ct d 0 0 mX8_refuse [ab_O 0, ab_I 1] [v6, w1, w2, w3, w4, v7, w6, v8, w8, w9, w10, w11, w12, w13, w14, w15] Q24 ∧ (∀ r25 : Int, ∀ v26 : ab_Ob, Q24 (some (ab_I r25)) [v26, w1, w2, w3, w4, v7, w6, v8, w8, w9, w10, w11, w12, w13, w14, w15] → Post (some (ab_I r25)) [v26, w1, w2, w3, w4, v7, w6, v8, w8, w9, w10, w11, w12, w13, w14, w15]))) ∧ ((a2 = 0 → (∃ Q19 : Option ab_V → List ab_Ob → Prop, ab_Ct d 0 0 mX7_partFirst [ab_O 0, ab_I a1] [v8] Q19 ∧ (∀ r20 : Int, Q19 (some (ab_I r20)) [v8] → (∃ Q21 : Option ab_V → List ab_Ob → Prop, ab_Ct d 0 0 mX8_grant [ab_O 0, ab_I r20] [v6, w1, w2, w3, w4, v7, w6, v8, w8, w9, w10, w11, w12, w13, w14, w15] Q21 ∧ (∀ r22 : Int, ∀ v23 : ab_Ob, Q21 (some (ab_I r22)) [v23, w1, w2, w3, w4, v7, w6, v8, w8, w9, w10, w11, w12, w13, w14, w15] → Post (some (ab_I r22)) [v23, w1, w2, w3, w4, v7, w6, v8, w8, w9, w10, w11, w12, w13, w14, w15]))))) ∧ ((a2 = 1 → (∃ Q14 : Option ab_V → List ab_Ob → Prop, ab_Ct d 0 0 mX7_partLast [ab_O 0, ab_I a1] [v8] Q14 ∧ (∀ r15 : Int, Q14 (some (ab_I r15)) [v8] → (∃ Q16 : Option ab_V → List ab_Ob → Prop, ab_Ct d 0 0 mX8_grant [ab_O 0, ab_I r15] [v6, w1, w2, w3, w4, v7, w6, v8, w8, w9, w10, w11, w12, w13, w14, w15] Q16 ∧ (∀ r17 : Int, ∀ v18 : ab_Ob, Q16 (some (ab_I r17)) [v18, w1, w2, w3, w4, v7, w6, v8, w8, w9, w10, w11, w12, w13, w14, w15] → Post (some (ab_I r17)) [v18, w1, w2, w3, w4, v7, w6, v8, w8, w9, w10, w11, w12, w13, w14, w15]))))) ∧ ((a2 = 2 → (∃ Q9 : Option ab_V → List ab_Ob → Prop, ab_Ct d 0 0 mX7_noteOver [ab_O 0, ab_I a1] [v8] Q9 ∧ (∀ r10 : Int, Q9 (some (ab_I r10)) [v8] → (∃ Q11 : Option ab_V → List ab_Ob → Prop, ab_Ct d 0 0 mX8_grant [ab_O 0, ab_I r10] [v6, w1, w2, w3, w4, v7, w6, v8, w8, w9, w10, w11, w12, w13, w14, w15] Q11 ∧ (∀ r12 : Int, ∀ v13 : ab_Ob, Q11 (some (ab_I r12)) [v13, w1, w2, w3, w4, v7, w6, v8, w8, w9, w10, w11, w12, w13, w14, w15] → Post (some (ab_I r12)) [v13, w1, w2, w3, w4, v7, w6, v8, w8, w9, w10, w11, w12, w13, w14, w15]))))) ∧ True))))))) ∧ (r2 = 0 → (∃ Q27 : Option ab_V → List ab_Ob → Prop, ab_Ct d 0 0 mX8_refuse [ab_O 0, ab_I 1] [w0, w1, w2, w3, w4, w5, w6, w7, w8, w9, w10, w11, w12, w13, w14, w15] Q27 ∧ (∀ r28 : Int, ∀ v29 : ab_Ob, Q27 (some (ab_I r28)) [v29, w1, w2, w3, w4, w5, w6, w7, w8, w9, w10, w11, w12, w13, w14, w15] → Post (some (ab_I r28)) [v29, w1, w2, w3, w4, w5, w6, w7, w8, w9, w10, w11, w12, w13, w14, w15]))))))) :
    ab_J x 0 [some (ab_O 0), some (ab_I a1), some (ab_I a2), none] [] [w0, w1, w2, w3, w4, w5, w6, w7, w8, w9, w10, w11, w12, w13, w14, w15] kc ks := ab_go hx kX8_reach.2 19 [] 0 h
def mX8_climax : ab_M := ((yX8_climax, cX8_climax, 5, (some .int)), ([8, 4, 5, 5, 0, 1, 2, 7, 6, 1, 7, 7, 7, 7, 3, 3], [(0, 0), (0, 1), (0, 2), (0, 3), (0, 4), (0, 5), (0, 6), (0, 7), (0, 8), (0, 9), (0, 10), (0, 11), (0, 12), (0, 13), (0, 14), (0, 15)], [true, false, false, false, false, true, false, true, false, false, false, false, false, false, false, true], true, true, 0), (false, 8, 1))
def rX8_climax : List ab_R := [(0, .aload_n 0, 1, 0, 0, 0, [], none),
  (1, .aload_n 0, 1, 0, 0, 0, [], none),
  (2, .getfield 87, 3, 8, 15, 0, [], none),
  (5, .iload_n 1, 1, 0, 0, 0, [], none),
  (6, .invokevirtual 262, 3, 0, 0, 0, [], some mX8_cutLayer),
  (9, .istore_n 2, 1, 0, 0, 0, [], none),
  (10, .iload_n 2, 1, 0, 0, 0, [], none),
  (11, .ifCond .eq 9, 3, 0, 0, 0, [20], none),
  (14, .aload_n 0, 1, 0, 0, 0, [], none),
  (15, .iload_n 2, 1, 0, 0, 0, [], none),
  (16, .invokevirtual 101, 3, 0, 0, 0, [], some mX8_refuse),
  (19, .ireturn, 1, 0, 0, 0, [], none),
  (20, .aload_n 0, 1, 0, 0, 0, [], none),
  (21, .getfield 87, 3, 8, 15, 0, [], none),
  (24, .getfield 267, 3, 3, 1, 0, [], none),
  (27, .iconst 0, 1, 0, 0, 0, [], none),
  (28, .iaload, 1, 0, 0, 0, [], none),
  (29, .istore_n 3, 1, 0, 0, 0, [], none),
  (30, .iconst 1, 1, 0, 0, 0, [], none),
  (31, .istore 4, 2, 0, 0, 0, [], none),
  (33, .iload 4, 2, 0, 0, 0, [], none),
  (35, .aload_n 0, 1, 0, 0, 0, [], none),
  (36, .getfield 87, 3, 8, 15, 0, [], none),
  (39, .getfield 266, 3, 3, 0, 0, [], none),
  (42, .if_icmp .ge 50, 3, 0, 0, 0, [92], none),
  (45, .aload_n 0, 1, 0, 0, 0, [], none),
  (46, .getfield 23, 3, 8, 2, 0, [], none),
  (49, .getfield 155, 3, 5, 4, 0, [], none),
  (52, .aload_n 0, 1, 0, 0, 0, [], none),
  (53, .getfield 87, 3, 8, 15, 0, [], none),
  (56, .getfield 267, 3, 3, 1, 0, [], none),
  (59, .iload 4, 2, 0, 0, 0, [], none),
  (61, .iaload, 1, 0, 0, 0, [], none),
  (62, .iaload, 1, 0, 0, 0, [], none),
  (63, .aload_n 0, 1, 0, 0, 0, [], none),
  (64, .getfield 23, 3, 8, 2, 0, [], none),
  (67, .getfield 155, 3, 5, 4, 0, [], none),
  (70, .iload_n 3, 1, 0, 0, 0, [], none),
  (71, .iaload, 1, 0, 0, 0, [], none),
  (72, .if_icmp .le 14, 3, 0, 0, 0, [86], none),
  (75, .aload_n 0, 1, 0, 0, 0, [], none),
  (76, .getfield 87, 3, 8, 15, 0, [], none),
  (79, .getfield 267, 3, 3, 1, 0, [], none),
  (82, .iload 4, 2, 0, 0, 0, [], none),
  (84, .iaload, 1, 0, 0, 0, [], none),
  (85, .istore_n 3, 1, 0, 0, 0, [], none),
  (86, .iinc 4 1, 3, 0, 0, 0, [], none),
  (89, .goto (-56), 3, 0, 0, 0, [33], none),
  (92, .aload_n 0, 1, 0, 0, 0, [], none),
  (93, .iload_n 3, 1, 0, 0, 0, [], none),
  (94, .invokevirtual 124, 3, 0, 0, 0, [], some mX8_grant),
  (97, .ireturn, 1, 0, 0, 0, [], none)]
set_option maxRecDepth 100000 in
theorem kX8_climax : ab_def_ok mX8_climax rX8_climax := ⟨ab_mok_of 919 101 917 918 (by decide +kernel), [0, 0, 406, 0, 879, 0, 0, 0, 0, 0, 455, 0, 0, 406, 377, 0, 0, 0, 0, 0, 0, 0, 406, 375, 0, 0, 393, 156, 0, 406, 377, 0, 0, 0, 0, 393, 156, 0, 0, 0, 0, 406, 377, 0, 0, 0, 0, 0, 0, 0, 620, 0], by decide +kernel⟩
set_option maxRecDepth 100000 in
theorem vX8_climax_0 {x : ab_Cx} {d mc ms : Nat} {Post : Option ab_V → List ab_Ob → Prop} (hx : ab_At x mX8_climax d mc ms Post) (a1 : Int) (w0 w1 w2 w3 w4 w5 w6 w7 w8 w9 w10 w11 w12 w13 w14 w15 : ab_Ob) (kc ks : Nat)
    (h : (∃ mc1 ms2 : Nat, (kc + mc1 ≤ mc ∧ ks + ms2 ≤ ms) ∧ ∃ Q3 : Option ab_V → List ab_Ob → Prop, ab_Ct d mc1 ms2 mX8_cutLayer [ab_O 0, ab_O 14, ab_I a1] [w0, w1, w2, w3, w4, w5, w6, w7, w8, w9, w10, w11, w12, w13, w14, w15] Q3 ∧ (∀ r4 : Int, ∀ v5 : ab_Ob, ∀ v6 : ab_Ob, ∀ v7 : ab_Ob, ∀ v8 : ab_Ob, Q3 (some (ab_I r4)) [v5, w1, w2, w3, w4, v6, w6, v7, w8, w9, w10, w11, w12, w13, w14, v8] → ((r4 = 0 → ((0 ≤ (0 : Int) ∧ (0 : Int) < (w14.2 1).1) ∧ ab_J x 33 [some (ab_O 0), none, none, some (ab_I ((w14.2 1).2 0)), some (ab_I 1)] [] [v5, w1, w2, w3, w4, v6, w6, v7, w8, w9, w10, w11, w12, w13, w14, v8] (kc + mc1) (ks + ms2))) ∧ (¬ r4 = 0 → (∃ Q9 : Option ab_V → List ab_Ob → Prop, ab_Ct d 0 0 mX8_refuse [ab_O 0, ab_I r4] [v5, w1, w2, w3, w4, v6, w6, v7, w8, w9, w10, w11, w12, w13, w14, v8] Q9 ∧ (∀ r10 : Int, ∀ v11 : ab_Ob, Q9 (some (ab_I r10)) [v11, w1, w2, w3, w4, v6, w6, v7, w8, w9, w10, w11, w12, w13, w14, v8] → Post (some (ab_I r10)) [v11, w1, w2, w3, w4, v6, w6, v7, w8, w9, w10, w11, w12, w13, w14, v8]))))))) :
    ab_J x 0 [some (ab_O 0), some (ab_I a1), none, none, none] [] [w0, w1, w2, w3, w4, w5, w6, w7, w8, w9, w10, w11, w12, w13, w14, w15] kc ks := ab_go hx kX8_climax.2 21 [(33, [true, false, false, true, true])] 0 h
set_option maxRecDepth 100000 in
theorem vX8_climax_33 {x : ab_Cx} {d mc ms : Nat} {Post : Option ab_V → List ab_Ob → Prop} (hx : ab_At x mX8_climax d mc ms Post) (l3 l4 : Int) (w0 w1 w2 w3 w4 w5 w6 w7 w8 w9 w10 w11 w12 w13 w14 w15 : ab_Ob) (kc ks : Nat)
    (h : (((w14.1 0) ≤ l4 → (∃ Q1 : Option ab_V → List ab_Ob → Prop, ab_Ct d 0 0 mX8_grant [ab_O 0, ab_I l3] [w0, w1, w2, w3, w4, w5, w6, w7, w8, w9, w10, w11, w12, w13, w14, w15] Q1 ∧ (∀ r2 : Int, ∀ v3 : ab_Ob, Q1 (some (ab_I r2)) [v3, w1, w2, w3, w4, w5, w6, w7, w8, w9, w10, w11, w12, w13, w14, w15] → Post (some (ab_I r2)) [v3, w1, w2, w3, w4, w5, w6, w7, w8, w9, w10, w11, w12, w13, w14, w15]))) ∧ (¬ (w14.1 0) ≤ l4 → ((0 ≤ l4 ∧ l4 < (w14.2 1).1) ∧ ((0 ≤ ((w14.2 1).2 l4) ∧ ((w14.2 1).2 l4) < (w3.2 4).1) ∧ ((0 ≤ l3 ∧ l3 < (w3.2 4).1) ∧ ((((w3.2 4).2 ((w14.2 1).2 l4)) ≤ ((w3.2 4).2 l3) → ((-2147483648 ≤ l4 + 1 ∧ l4 + 1 ≤ 2147483647) ∧ ab_J x 33 [some (ab_O 0), none, none, some (ab_I l3), some (ab_I (l4 + 1))] [] [w0, w1, w2, w3, w4, w5, w6, w7, w8, w9, w10, w11, w12, w13, w14, w15] kc ks)) ∧ (¬ ((w3.2 4).2 ((w14.2 1).2 l4)) ≤ ((w3.2 4).2 l3) → ((0 ≤ l4 ∧ l4 < (w14.2 1).1) ∧ ((-2147483648 ≤ l4 + 1 ∧ l4 + 1 ≤ 2147483647) ∧ ab_J x 33 [some (ab_O 0), none, none, some (ab_I ((w14.2 1).2 l4)), some (ab_I (l4 + 1))] [] [w0, w1, w2, w3, w4, w5, w6, w7, w8, w9, w10, w11, w12, w13, w14, w15] kc ks)))))))))) :
    ab_J x 33 [some (ab_O 0), none, none, some (ab_I l3), some (ab_I l4)] [] [w0, w1, w2, w3, w4, w5, w6, w7, w8, w9, w10, w11, w12, w13, w14, w15] kc ks := ab_go hx kX8_climax.2 33 [(33, [true, false, false, true, true])] 33 h
def mX8_widest : ab_M := ((yX8_widest, cX8_widest, 5, (some .int)), ([8, 4, 5, 5, 0, 1, 2, 7, 6, 1, 7, 7, 7, 7, 3, 3], [(0, 0), (0, 1), (0, 2), (0, 3), (0, 4), (0, 5), (0, 6), (0, 7), (0, 8), (0, 9), (0, 10), (0, 11), (0, 12), (0, 13), (0, 14), (0, 15)], [true, false, false, false, false, true, false, true, false, false, false, false, false, false, false, true], true, true, 0), (false, 8, 1))
def rX8_widest : List ab_R := [(0, .aload_n 0, 1, 0, 0, 0, [], none),
  (1, .aload_n 0, 1, 0, 0, 0, [], none),
  (2, .getfield 87, 3, 8, 15, 0, [], none),
  (5, .iload_n 1, 1, 0, 0, 0, [], none),
  (6, .invokevirtual 262, 3, 0, 0, 0, [], some mX8_cutLayer),
  (9, .istore_n 2, 1, 0, 0, 0, [], none),
  (10, .iload_n 2, 1, 0, 0, 0, [], none),
  (11, .ifCond .eq 9, 3, 0, 0, 0, [20], none),
  (14, .aload_n 0, 1, 0, 0, 0, [], none),
  (15, .iload_n 2, 1, 0, 0, 0, [], none),
  (16, .invokevirtual 101, 3, 0, 0, 0, [], some mX8_refuse),
  (19, .ireturn, 1, 0, 0, 0, [], none),
  (20, .iconst 0, 1, 0, 0, 0, [], none),
  (21, .istore_n 3, 1, 0, 0, 0, [], none),
  (22, .iconst 0, 1, 0, 0, 0, [], none),
  (23, .istore 4, 2, 0, 0, 0, [], none),
  (25, .iload 4, 2, 0, 0, 0, [], none),
  (27, .iconst 1, 1, 0, 0, 0, [], none),
  (28, .iadd, 1, 0, 0, 0, [], none),
  (29, .aload_n 0, 1, 0, 0, 0, [], none),
  (30, .getfield 87, 3, 8, 15, 0, [], none),
  (33, .getfield 266, 3, 3, 0, 0, [], none),
  (36, .if_icmp .ge 30, 3, 0, 0, 0, [66], none),
  (39, .iload_n 3, 1, 0, 0, 0, [], none),
  (40, .aload_n 0, 1, 0, 0, 0, [], none),
  (41, .getfield 87, 3, 8, 15, 0, [], none),
  (44, .aload_n 0, 1, 0, 0, 0, [], none),
  (45, .getfield 23, 3, 8, 2, 0, [], none),
  (48, .iload 4, 2, 0, 0, 0, [], none),
  (50, .invokevirtual 272, 3, 0, 0, 0, [], some mX3_stepFrom),
  (53, .invokestatic 275, 3, 0, 0, 12, [], none),
  (56, .invokestatic 287, 3, 0, 0, 10, [], none),
  (59, .istore_n 3, 1, 0, 0, 0, [], none),
  (60, .iinc 4 1, 3, 0, 0, 0, [], none),
  (63, .goto (-38), 3, 0, 0, 0, [25], none),
  (66, .aload_n 0, 1, 0, 0, 0, [], none),
  (67, .iload_n 3, 1, 0, 0, 0, [], none),
  (68, .invokevirtual 124, 3, 0, 0, 0, [], some mX8_grant),
  (71, .ireturn, 1, 0, 0, 0, [], none)]
set_option maxRecDepth 100000 in
theorem kX8_widest : ab_def_ok mX8_widest rX8_widest := ⟨ab_mok_of 923 101 921 922 (by decide +kernel), [0, 0, 406, 0, 879, 0, 0, 0, 0, 0, 455, 0, 0, 0, 0, 0, 0, 0, 0, 0, 406, 375, 0, 0, 0, 406, 0, 393, 0, 895, 899, 924, 0, 0, 0, 0, 0, 620, 0], by decide +kernel⟩
set_option maxRecDepth 100000 in
theorem vX8_widest_0 {x : ab_Cx} {d mc ms : Nat} {Post : Option ab_V → List ab_Ob → Prop} (hx : ab_At x mX8_widest d mc ms Post) (a1 : Int) (w0 w1 w2 w3 w4 w5 w6 w7 w8 w9 w10 w11 w12 w13 w14 w15 : ab_Ob) (kc ks : Nat)
    (h : (∃ mc1 ms2 : Nat, (kc + mc1 ≤ mc ∧ ks + ms2 ≤ ms) ∧ ∃ Q3 : Option ab_V → List ab_Ob → Prop, ab_Ct d mc1 ms2 mX8_cutLayer [ab_O 0, ab_O 14, ab_I a1] [w0, w1, w2, w3, w4, w5, w6, w7, w8, w9, w10, w11, w12, w13, w14, w15] Q3 ∧ (∀ r4 : Int, ∀ v5 : ab_Ob, ∀ v6 : ab_Ob, ∀ v7 : ab_Ob, ∀ v8 : ab_Ob, Q3 (some (ab_I r4)) [v5, w1, w2, w3, w4, v6, w6, v7, w8, w9, w10, w11, w12, w13, w14, v8] → ((r4 = 0 → ab_J x 25 [some (ab_O 0), none, none, some (ab_I 0), some (ab_I 0)] [] [v5, w1, w2, w3, w4, v6, w6, v7, w8, w9, w10, w11, w12, w13, w14, v8] (kc + mc1) (ks + ms2)) ∧ (¬ r4 = 0 → (∃ Q9 : Option ab_V → List ab_Ob → Prop, ab_Ct d 0 0 mX8_refuse [ab_O 0, ab_I r4] [v5, w1, w2, w3, w4, v6, w6, v7, w8, w9, w10, w11, w12, w13, w14, v8] Q9 ∧ (∀ r10 : Int, ∀ v11 : ab_Ob, Q9 (some (ab_I r10)) [v11, w1, w2, w3, w4, v6, w6, v7, w8, w9, w10, w11, w12, w13, w14, v8] → Post (some (ab_I r10)) [v11, w1, w2, w3, w4, v6, w6, v7, w8, w9, w10, w11, w12, w13, w14, v8]))))))) :
    ab_J x 0 [some (ab_O 0), some (ab_I a1), none, none, none] [] [w0, w1, w2, w3, w4, w5, w6, w7, w8, w9, w10, w11, w12, w13, w14, w15] kc ks := ab_go hx kX8_widest.2 17 [(25, [true, false, false, true, true])] 0 h
set_option maxRecDepth 100000 in
theorem vX8_widest_25 {x : ab_Cx} {d mc ms : Nat} {Post : Option ab_V → List ab_Ob → Prop} (hx : ab_At x mX8_widest d mc ms Post) (l3 l4 : Int) (w0 w1 w2 w3 w4 w5 w6 w7 w8 w9 w10 w11 w12 w13 w14 w15 : ab_Ob) (kc ks : Nat)
    (h : ((-2147483648 ≤ l4 + 1 ∧ l4 + 1 ≤ 2147483647) ∧ (((w14.1 0) ≤ (l4 + 1) → (∃ Q1 : Option ab_V → List ab_Ob → Prop, ab_Ct d 0 0 mX8_grant [ab_O 0, ab_I l3] [w0, w1, w2, w3, w4, w5, w6, w7, w8, w9, w10, w11, w12, w13, w14, w15] Q1 ∧ (∀ r2 : Int, ∀ v3 : ab_Ob, Q1 (some (ab_I r2)) [v3, w1, w2, w3, w4, w5, w6, w7, w8, w9, w10, w11, w12, w13, w14, w15] → Post (some (ab_I r2)) [v3, w1, w2, w3, w4, w5, w6, w7, w8, w9, w10, w11, w12, w13, w14, w15]))) ∧ (¬ (w14.1 0) ≤ (l4 + 1) → (∃ Q4 : Option ab_V → List ab_Ob → Prop, ab_Ct d 0 0 mX3_stepFrom [ab_O 0, ab_O 1, ab_I l4] [w14, w3] Q4 ∧ (∀ r5 : Int, Q4 (some (ab_I r5)) [w14, w3] → ((-2147483648 ≤ -r5 ∧ -r5 ≤ 2147483647) ∧ ((-2147483648 ≤ l4 + 1 ∧ l4 + 1 ≤ 2147483647) ∧ ab_J x 25 [some (ab_O 0), none, none, some (ab_I (if l3 < (if 0 ≤ r5 then r5 else 0 - r5) then (if 0 ≤ r5 then r5 else 0 - r5) else l3)), some (ab_I (l4 + 1))] [] [w0, w1, w2, w3, w4, w5, w6, w7, w8, w9, w10, w11, w12, w13, w14, w15] kc ks)))))))) :
    ab_J x 25 [some (ab_O 0), none, none, some (ab_I l3), some (ab_I l4)] [] [w0, w1, w2, w3, w4, w5, w6, w7, w8, w9, w10, w11, w12, w13, w14, w15] kc ks := ab_go hx kX8_widest.2 24 [(25, [true, false, false, true, true])] 25 h
