def mX8_breaksOf : ab_M := ((yX8_breaksOf, cX8_breaksOf, 2, (some .int)), ([8, 4, 5, 5, 0, 1, 2, 7, 6, 1, 7, 7, 7, 7, 3, 3], [(0, 0), (0, 1), (0, 2), (0, 3), (0, 4), (0, 5), (0, 6), (0, 7), (0, 8), (0, 9), (0, 10), (0, 11), (0, 12), (0, 13), (0, 14), (0, 15)], [true, false, false, false, false, true, false, true, false, false, false, false, false, false, false, false], true, true, 0), (false, 8, 1))
def rX8_breaksOf : List ab_R := [(0, .aload_n 0, 1, 0, 0, 0, [], none),
  (1, .iload_n 1, 1, 0, 0, 0, [], none),
  (2, .invokevirtual 178, 3, 0, 0, 0, [], some mX8_hasRule),
  (5, .ifCond .ne 9, 3, 0, 0, 0, [14], none),
  (8, .aload_n 0, 1, 0, 0, 0, [], none),
  (9, .iconst 1, 1, 0, 0, 0, [], none),
  (10, .invokevirtual 101, 3, 0, 0, 0, [], some mX8_refuse),
  (13, .ireturn, 1, 0, 0, 0, [], none),
  (14, .aload_n 0, 1, 0, 0, 0, [], none),
  (15, .aload_n 0, 1, 0, 0, 0, [], none),
  (16, .getfield 23, 3, 8, 2, 0, [], none),
  (19, .getfield 181, 3, 5, 6, 0, [], none),
  (22, .iload_n 1, 1, 0, 0, 0, [], none),
  (23, .iaload, 1, 0, 0, 0, [], none),
  (24, .aload_n 0, 1, 0, 0, 0, [], none),
  (25, .invokevirtual 171, 3, 0, 0, 0, [], some mX8_freshTree),
  (28, .aload_n 0, 1, 0, 0, 0, [], none),
  (29, .getfield 23, 3, 8, 2, 0, [], none),
  (32, .iload_n 1, 1, 0, 0, 0, [], none),
  (33, .invokevirtual 256, 3, 0, 0, 0, [], some mX7_unitsOf),
  (36, .imul, 1, 0, 0, 0, [], none),
  (37, .invokevirtual 124, 3, 0, 0, 0, [], some mX8_grant),
  (40, .ireturn, 1, 0, 0, 0, [], none)]
set_option maxRecDepth 100000 in
theorem kX8_breaksOf : ab_def_ok mX8_breaksOf rX8_breaksOf := ⟨ab_mok_of 844 99 842 843 (by decide +kernel), [0, 0, 733, 0, 0, 0, 453, 0, 0, 0, 391, 160, 0, 0, 0, 646, 0, 391, 0, 845, 0, 610, 0], by decide +kernel⟩
set_option maxRecDepth 100000 in
set_option maxHeartbeats 100000000 in
theorem vX8_breaksOf_0 {x : ab_Cx} {d mc ms : Nat} {Post : Option ab_V → List ab_Ob → Prop} (hx : ab_At x mX8_breaksOf d mc ms Post) (a1 : Int) (w0 w1 w2 w3 w4 w5 w6 w7 w8 w9 w10 w11 w12 w13 w14 w15 : ab_Ob) (kc ks : Nat)
    (h : (∃ Q1 : Option ab_V → List ab_Ob → Prop, ab_Ct d 0 0 mX8_hasRule [ab_O 0, ab_I a1] [w0, w1, w2, w3, w4, w5, w6, w7, w8, w9, w10, w11, w12, w13, w14, w15] Q1 ∧ (∀ r2 : Int, Q1 (some (ab_I r2)) [w0, w1, w2, w3, w4, w5, w6, w7, w8, w9, w10, w11, w12, w13, w14, w15] → ((¬ r2 = 0 → ((0 ≤ a1 ∧ a1 < (w3.2 6).1) ∧ (∃ mc3 ms4 : Nat, (kc + mc3 ≤ mc ∧ ks + ms4 ≤ ms) ∧ ∃ Q5 : Option ab_V → List ab_Ob → Prop, ab_Ct d mc3 ms4 mX8_freshTree [ab_O 0] [w0, w1, w2, w3, w4, w5, w6, w7, w8, w9, w10, w11, w12, w13, w14, w15] Q5 ∧ (∀ v6 : ab_Ob, ∀ v7 : ab_Ob, ∀ v8 : ab_Ob, Q5 (some (ab_O 7)) [v6, w1, w2, w3, w4, v7, w6, v8, w8, w9, w10, w11, w12, w13, w14, w15] → (∃ Q9 : Option ab_V → List ab_Ob → Prop, ab_Ct d 0 0 mX7_unitsOf [ab_O 0, ab_O 1, ab_I a1] [v8, w3] Q9 ∧ (∀ r10 : Int, Q9 (some (ab_I r10)) [v8, w3] → ((-2147483648 ≤ ((w3.2 6).2 a1) * r10 ∧ ((w3.2 6).2 a1) * r10 ≤ 2147483647) ∧ (∃ Q11 : Option ab_V → List ab_Ob → Prop, ab_Ct d 0 0 mX8_grant [ab_O 0, ab_I (((w3.2 6).2 a1) * r10)] [v6, w1, w2, w3, w4, v7, w6, v8, w8, w9, w10, w11, w12, w13, w14, w15] Q11 ∧ (∀ r12 : Int, ∀ v13 : ab_Ob, Q11 (some (ab_I r12)) [v13, w1, w2, w3, w4, v7, w6, v8, w8, w9, w10, w11, w12, w13, w14, w15] → Post (some (ab_I r12)) [v13, w1, w2, w3, w4, v7, w6, v8, w8, w9, w10, w11, w12, w13, w14, w15]))))))))) ∧ (r2 = 0 → (∃ Q14 : Option ab_V → List ab_Ob → Prop, ab_Ct d 0 0 mX8_refuse [ab_O 0, ab_I 1] [w0, w1, w2, w3, w4, w5, w6, w7, w8, w9, w10, w11, w12, w13, w14, w15] Q14 ∧ (∀ r15 : Int, ∀ v16 : ab_Ob, Q14 (some (ab_I r15)) [v16, w1, w2, w3, w4, w5, w6, w7, w8, w9, w10, w11, w12, w13, w14, w15] → Post (some (ab_I r15)) [v16, w1, w2, w3, w4, w5, w6, w7, w8, w9, w10, w11, w12, w13, w14, w15]))))))) :
    ab_J x 0 [some (ab_O 0), some (ab_I a1)] [] [w0, w1, w2, w3, w4, w5, w6, w7, w8, w9, w10, w11, w12, w13, w14, w15] kc ks := ab_go hx kX8_breaksOf.2 23 [] 0 h
def mX8_deepest : ab_M := ((yX8_deepest, cX8_deepest, 1, (some .int)), ([8, 4, 5, 5, 0, 1, 2, 7, 6, 1, 7, 7, 7, 7, 3, 3], [(0, 0), (0, 1), (0, 2), (0, 3), (0, 4), (0, 5), (0, 6), (0, 7), (0, 8), (0, 9), (0, 10), (0, 11), (0, 12), (0, 13), (0, 14), (0, 15)], [true, false, false, false, false, true, false, true, false, false, false, false, false, false, false, false], true, true, 0), (false, 8, 0))
def rX8_deepest : List ab_R := [(0, .aload_n 0, 1, 0, 0, 0, [], none),
  (1, .invokevirtual 130, 3, 0, 0, 0, [], some mX8_hasPiece),
  (4, .ifCond .eq 17, 3, 0, 0, 0, [21], none),
  (7, .aload_n 0, 1, 0, 0, 0, [], none),
  (8, .aload_n 0, 1, 0, 0, 0, [], none),
  (9, .invokevirtual 171, 3, 0, 0, 0, [], some mX8_freshTree),
  (12, .invokevirtual 259, 3, 0, 0, 0, [], some mX7_greatestDepth),
  (15, .invokevirtual 124, 3, 0, 0, 0, [], some mX8_grant),
  (18, .goto 8, 3, 0, 0, 0, [26], none),
  (21, .aload_n 0, 1, 0, 0, 0, [], none),
  (22, .iconst 1, 1, 0, 0, 0, [], none),
  (23, .invokevirtual 101, 3, 0, 0, 0, [], some mX8_refuse),
  (26, .ireturn, 1, 0, 0, 0, [], none)]
set_option maxRecDepth 100000 in
theorem kX8_deepest : ab_def_ok mX8_deepest rX8_deepest := ⟨ab_mok_of 857 99 855 856 (by decide +kernel), [0, 626, 0, 0, 0, 646, 858, 610, 0, 0, 0, 453, 0], by decide +kernel⟩
set_option maxRecDepth 100000 in
set_option maxHeartbeats 100000000 in
theorem vX8_deepest_0 {x : ab_Cx} {d mc ms : Nat} {Post : Option ab_V → List ab_Ob → Prop} (hx : ab_At x mX8_deepest d mc ms Post) (w0 w1 w2 w3 w4 w5 w6 w7 w8 w9 w10 w11 w12 w13 w14 w15 : ab_Ob) (kc ks : Nat)
    (h : (∃ Q1 : Option ab_V → List ab_Ob → Prop, ab_Ct d 0 0 mX8_hasPiece [ab_O 0] [w0, w1, w2, w3, w4, w5, w6, w7, w8, w9, w10, w11, w12, w13, w14, w15] Q1 ∧ (∀ r2 : Int, Q1 (some (ab_I r2)) [w0, w1, w2, w3, w4, w5, w6, w7, w8, w9, w10, w11, w12, w13, w14, w15] → ((r2 = 0 → (∃ Q3 : Option ab_V → List ab_Ob → Prop, ab_Ct d 0 0 mX8_refuse [ab_O 0, ab_I 1] [w0, w1, w2, w3, w4, w5, w6, w7, w8, w9, w10, w11, w12, w13, w14, w15] Q3 ∧ (∀ r4 : Int, ∀ v5 : ab_Ob, Q3 (some (ab_I r4)) [v5, w1, w2, w3, w4, w5, w6, w7, w8, w9, w10, w11, w12, w13, w14, w15] → Post (some (ab_I r4)) [v5, w1, w2, w3, w4, w5, w6, w7, w8, w9, w10, w11, w12, w13, w14, w15]))) ∧ (¬ r2 = 0 → (∃ mc6 ms7 : Nat, (kc + mc6 ≤ mc ∧ ks + ms7 ≤ ms) ∧ ∃ Q8 : Option ab_V → List ab_Ob → Prop, ab_Ct d mc6 ms7 mX8_freshTree [ab_O 0] [w0, w1, w2, w3, w4, w5, w6, w7, w8, w9, w10, w11, w12, w13, w14, w15] Q8 ∧ (∀ v9 : ab_Ob, ∀ v10 : ab_Ob, ∀ v11 : ab_Ob, Q8 (some (ab_O 7)) [v9, w1, w2, w3, w4, v10, w6, v11, w8, w9, w10, w11, w12, w13, w14, w15] → (∃ Q12 : Option ab_V → List ab_Ob → Prop, ab_Ct d 0 0 mX7_greatestDepth [ab_O 0] [v11] Q12 ∧ (∀ r13 : Int, Q12 (some (ab_I r13)) [v11] → (∃ Q14 : Option ab_V → List ab_Ob → Prop, ab_Ct d 0 0 mX8_grant [ab_O 0, ab_I r13] [v9, w1, w2, w3, w4, v10, w6, v11, w8, w9, w10, w11, w12, w13, w14, w15] Q14 ∧ (∀ r15 : Int, ∀ v16 : ab_Ob, Q14 (some (ab_I r15)) [v16, w1, w2, w3, w4, v10, w6, v11, w8, w9, w10, w11, w12, w13, w14, w15] → Post (some (ab_I r15)) [v16, w1, w2, w3, w4, v10, w6, v11, w8, w9, w10, w11, w12, w13, w14, w15]))))))))))) :
    ab_J x 0 [some (ab_O 0)] [] [w0, w1, w2, w3, w4, w5, w6, w7, w8, w9, w10, w11, w12, w13, w14, w15] kc ks := ab_go hx kX8_deepest.2 14 [] 0 h
def mX8_cutLayer : ab_M := ((yX8_cutLayer, cX8_cutLayer, 4, (some .int)), ([8, 4, 5, 5, 0, 1, 2, 7, 6, 1, 7, 7, 7, 7, 3, 3], [(0, 0), (0, 1), (0, 2), (0, 3), (0, 4), (0, 5), (0, 6), (0, 7), (0, 8), (0, 9), (0, 10), (0, 11), (0, 12), (0, 13), (0, 14), (0, 15)], [true, false, false, false, false, true, false, true, false, false, false, false, false, false, true, true], true, true, 0), (false, 8, 2))
def rX8_cutLayer : List ab_R := [(0, .aload_n 0, 1, 0, 0, 0, [], none),
  (1, .invokevirtual 130, 3, 0, 0, 0, [], some mX8_hasPiece),
  (4, .ifCond .ne 5, 3, 0, 0, 0, [9], none),
  (7, .iconst 1, 1, 0, 0, 0, [], none),
  (8, .ireturn, 1, 0, 0, 0, [], none),
  (9, .aload_n 0, 1, 0, 0, 0, [], none),
  (10, .invokevirtual 171, 3, 0, 0, 0, [], some mX8_freshTree),
  (13, .astore_n 3, 1, 0, 0, 0, [], none),
  (14, .iload_n 2, 1, 0, 0, 0, [], none),
  (15, .ifCond .lt 11, 3, 0, 0, 0, [26], none),
  (18, .iload_n 2, 1, 0, 0, 0, [], none),
  (19, .aload_n 3, 1, 0, 0, 0, [], none),
  (20, .invokevirtual 259, 3, 0, 0, 0, [], some mX7_greatestDepth),
  (23, .if_icmp .le 5, 3, 0, 0, 0, [28], none),
  (26, .iconst 2, 1, 0, 0, 0, [], none),
  (27, .ireturn, 1, 0, 0, 0, [], none),
  (28, .aload_n 1, 1, 0, 0, 0, [], none),
  (29, .aload_n 3, 1, 0, 0, 0, [], none),
  (30, .iload_n 2, 1, 0, 0, 0, [], none),
  (31, .aload_n 0, 1, 0, 0, 0, [], none),
  (32, .getfield 23, 3, 8, 2, 0, [], none),
  (35, .getfield 121, 3, 5, 3, 0, [], none),
  (38, .invokevirtual 382, 3, 0, 0, 0, [], some mX3_cut),
  (41, .iconst 0, 1, 0, 0, 0, [], none),
  (42, .ireturn, 1, 0, 0, 0, [], none)]
set_option maxRecDepth 100000 in
theorem kX8_cutLayer : ab_def_ok mX8_cutLayer rX8_cutLayer := ⟨ab_mok_of 872 99 871 33 (by decide +kernel), [0, 626, 0, 0, 0, 0, 646, 0, 0, 0, 0, 0, 858, 0, 0, 0, 0, 0, 0, 0, 391, 148, 873, 0, 0], by decide +kernel⟩
set_option maxRecDepth 100000 in
set_option maxHeartbeats 100000000 in
theorem vX8_cutLayer_14_0 {x : ab_Cx} {d mc ms : Nat} {Post : Option ab_V → List ab_Ob → Prop} (hx : ab_At x mX8_cutLayer d mc ms Post) (a2 : Int) (w0 w1 w2 w3 w4 w5 w6 w7 w8 w9 w10 w11 w12 w13 w14 w15 : ab_Ob) (kc ks : Nat)
    (h : (∃ Q1 : Option ab_V → List ab_Ob → Prop, ab_Ct d 0 0 mX8_hasPiece [ab_O 0] [w0, w1, w2, w3, w4, w5, w6, w7, w8, w9, w10, w11, w12, w13, w14, w15] Q1 ∧ (∀ r2 : Int, Q1 (some (ab_I r2)) [w0, w1, w2, w3, w4, w5, w6, w7, w8, w9, w10, w11, w12, w13, w14, w15] → ((¬ r2 = 0 → (∃ mc3 ms4 : Nat, (kc + mc3 ≤ mc ∧ ks + ms4 ≤ ms) ∧ ∃ Q5 : Option ab_V → List ab_Ob → Prop, ab_Ct d mc3 ms4 mX8_freshTree [ab_O 0] [w0, w1, w2, w3, w4, w5, w6, w7, w8, w9, w10, w11, w12, w13, w14, w15] Q5 ∧ (∀ v6 : ab_Ob, ∀ v7 : ab_Ob, ∀ v8 : ab_Ob, Q5 (some (ab_O 7)) [v6, w1, w2, w3, w4, v7, w6, v8, w8, w9, w10, w11, w12, w13, w14, w15] → ((a2 < 0 → Post (some (ab_I 2)) [v6, w1, w2, w3, w4, v7, w6, v8, w8, w9, w10, w11, w12, w13, w14, w15]) ∧ (¬ a2 < 0 → (∃ Q9 : Option ab_V → List ab_Ob → Prop, ab_Ct d 0 0 mX7_greatestDepth [ab_O 0] [v8] Q9 ∧ (∀ r10 : Int, Q9 (some (ab_I r10)) [v8] → ((a2 ≤ r10 → (∃ Q11 : Option ab_V → List ab_Ob → Prop, ab_Ct d 0 0 mX3_cut [ab_O 0, ab_O 1, ab_I a2, ab_I (w3.1 3)] [w14, v8] Q11 ∧ (∀ v12 : ab_Ob, Q11 none [v12, v8] → Post (some (ab_I 0)) [v6, w1, w2, w3, w4, v7, w6, v8, w8, w9, w10, w11, w12, w13, v12, w15]))) ∧ (¬ a2 ≤ r10 → Post (some (ab_I 2)) [v6, w1, w2, w3, w4, v7, w6, v8, w8, w9, w10, w11, w12, w13, w14, w15]))))))))) ∧ (r2 = 0 → Post (some (ab_I 1)) [w0, w1, w2, w3, w4, w5, w6, w7, w8, w9, w10, w11, w12, w13, w14, w15]))))) :
    ab_J x 0 [some (ab_O 0), some (ab_O 14), some (ab_I a2), none] [] [w0, w1, w2, w3, w4, w5, w6, w7, w8, w9, w10, w11, w12, w13, w14, w15] kc ks := ab_go hx kX8_cutLayer.2 25 [] 0 h
set_option maxRecDepth 100000 in
set_option maxHeartbeats 100000000 in
theorem vX8_cutLayer_15_0 {x : ab_Cx} {d mc ms : Nat} {Post : Option ab_V → List ab_Ob → Prop} (hx : ab_At x mX8_cutLayer d mc ms Post) (a2 : Int) (w0 w1 w2 w3 w4 w5 w6 w7 w8 w9 w10 w11 w12 w13 w14 w15 : ab_Ob) (kc ks : Nat)
    (h : (∃ Q1 : Option ab_V → List ab_Ob → Prop, ab_Ct d 0 0 mX8_hasPiece [ab_O 0] [w0, w1, w2, w3, w4, w5, w6, w7, w8, w9, w10, w11, w12, w13, w14, w15] Q1 ∧ (∀ r2 : Int, Q1 (some (ab_I r2)) [w0, w1, w2, w3, w4, w5, w6, w7, w8, w9, w10, w11, w12, w13, w14, w15] → ((¬ r2 = 0 → (∃ mc3 ms4 : Nat, (kc + mc3 ≤ mc ∧ ks + ms4 ≤ ms) ∧ ∃ Q5 : Option ab_V → List ab_Ob → Prop, ab_Ct d mc3 ms4 mX8_freshTree [ab_O 0] [w0, w1, w2, w3, w4, w5, w6, w7, w8, w9, w10, w11, w12, w13, w14, w15] Q5 ∧ (∀ v6 : ab_Ob, ∀ v7 : ab_Ob, ∀ v8 : ab_Ob, Q5 (some (ab_O 7)) [v6, w1, w2, w3, w4, v7, w6, v8, w8, w9, w10, w11, w12, w13, w14, w15] → ((a2 < 0 → Post (some (ab_I 2)) [v6, w1, w2, w3, w4, v7, w6, v8, w8, w9, w10, w11, w12, w13, w14, w15]) ∧ (¬ a2 < 0 → (∃ Q9 : Option ab_V → List ab_Ob → Prop, ab_Ct d 0 0 mX7_greatestDepth [ab_O 0] [v8] Q9 ∧ (∀ r10 : Int, Q9 (some (ab_I r10)) [v8] → ((a2 ≤ r10 → (∃ Q11 : Option ab_V → List ab_Ob → Prop, ab_Ct d 0 0 mX3_cut [ab_O 0, ab_O 1, ab_I a2, ab_I (w3.1 3)] [w15, v8] Q11 ∧ (∀ v12 : ab_Ob, Q11 none [v12, v8] → Post (some (ab_I 0)) [v6, w1, w2, w3, w4, v7, w6, v8, w8, w9, w10, w11, w12, w13, w14, v12]))) ∧ (¬ a2 ≤ r10 → Post (some (ab_I 2)) [v6, w1, w2, w3, w4, v7, w6, v8, w8, w9, w10, w11, w12, w13, w14, w15]))))))))) ∧ (r2 = 0 → Post (some (ab_I 1)) [w0, w1, w2, w3, w4, w5, w6, w7, w8, w9, w10, w11, w12, w13, w14, w15]))))) :
    ab_J x 0 [some (ab_O 0), some (ab_O 15), some (ab_I a2), none] [] [w0, w1, w2, w3, w4, w5, w6, w7, w8, w9, w10, w11, w12, w13, w14, w15] kc ks := ab_go hx kX8_cutLayer.2 25 [] 0 h
def mX8_level : ab_M := ((yX8_level, cX8_level, 3, (some .int)), ([8, 4, 5, 5, 0, 1, 2, 7, 6, 1, 7, 7, 7, 7, 3, 3], [(0, 0), (0, 1), (0, 2), (0, 3), (0, 4), (0, 5), (0, 6), (0, 7), (0, 8), (0, 9), (0, 10), (0, 11), (0, 12), (0, 13), (0, 14), (0, 15)], [true, false, false, false, false, true, false, true, false, false, false, false, false, false, true, true], true, true, 0), (false, 8, 1))
def rX8_level : List ab_R := [(0, .aload_n 0, 1, 0, 0, 0, [], none),
  (1, .aload_n 0, 1, 0, 0, 0, [], none),
  (2, .getfield 87, 3, 8, 15, 0, [], none),
  (5, .iload_n 1, 1, 0, 0, 0, [], none),
  (6, .invokevirtual 262, 3, 0, 0, 0, [], some mX8_cutLayer),
  (9, .istore_n 2, 1, 0, 0, 0, [], none),
  (10, .iload_n 2, 1, 0, 0, 0, [], none),
  (11, .ifCond .ne 17, 3, 0, 0, 0, [28], none),
  (14, .aload_n 0, 1, 0, 0, 0, [], none),
  (15, .aload_n 0, 1, 0, 0, 0, [], none),
  (16, .getfield 87, 3, 8, 15, 0, [], none),
  (19, .getfield 266, 3, 3, 0, 0, [], none),
  (22, .invokevirtual 124, 3, 0, 0, 0, [], some mX8_grant),
  (25, .goto 8, 3, 0, 0, 0, [33], none),
  (28, .aload_n 0, 1, 0, 0, 0, [], none),
  (29, .iload_n 2, 1, 0, 0, 0, [], none),
  (30, .invokevirtual 101, 3, 0, 0, 0, [], some mX8_refuse),
  (33, .ireturn, 1, 0, 0, 0, [], none)]
set_option maxRecDepth 100000 in
theorem kX8_level : ab_def_ok mX8_level rX8_level := ⟨ab_mok_of 868 99 866 867 (by decide +kernel), [0, 0, 404, 0, 869, 0, 0, 0, 0, 0, 404, 373, 610, 0, 0, 0, 453, 0], by decide +kernel⟩
set_option maxRecDepth 100000 in
set_option maxHeartbeats 100000000 in
theorem vX8_level_0 {x : ab_Cx} {d mc ms : Nat} {Post : Option ab_V → List ab_Ob → Prop} (hx : ab_At x mX8_level d mc ms Post) (a1 : Int) (w0 w1 w2 w3 w4 w5 w6 w7 w8 w9 w10 w11 w12 w13 w14 w15 : ab_Ob) (kc ks : Nat)
    (h : (∃ mc1 ms2 : Nat, (kc + mc1 ≤ mc ∧ ks + ms2 ≤ ms) ∧ ∃ Q3 : Option ab_V → List ab_Ob → Prop, ab_Ct d mc1 ms2 mX8_cutLayer [ab_O 0, ab_O 14, ab_I a1] [w0, w1, w2, w3, w4, w5, w6, w7, w8, w9, w10, w11, w12, w13, w14, w15] Q3 ∧ (∀ r4 : Int, ∀ v5 : ab_Ob, ∀ v6 : ab_Ob, ∀ v7 : ab_Ob, ∀ v8 : ab_Ob, ∀ v9 : ab_Ob, Q3 (some (ab_I r4)) [v5, w1, w2, w3, w4, v6, w6, v7, w8, w9, w10, w11, w12, w13, v8, v9] → ((¬ r4 = 0 → (∃ Q10 : Option ab_V → List ab_Ob → Prop, ab_Ct d 0 0 mX8_refuse [ab_O 0, ab_I r4] [v5, w1, w2, w3, w4, v6, w6, v7, w8, w9, w10, w11, w12, w13, v8, v9] Q10 ∧ (∀ r11 : Int, ∀ v12 : ab_Ob, Q10 (some (ab_I r11)) [v12, w1, w2, w3, w4, v6, w6, v7, w8, w9, w10, w11, w12, w13, v8, v9] → Post (some (ab_I r11)) [v12, w1, w2, w3, w4, v6, w6, v7, w8, w9, w10, w11, w12, w13, v8, v9]))) ∧ (r4 = 0 → (∃ Q13 : Option ab_V → List ab_Ob → Prop, ab_Ct d 0 0 mX8_grant [ab_O 0, ab_I (v8.1 0)] [v5, w1, w2, w3, w4, v6, w6, v7, w8, w9, w10, w11, w12, w13, v8, v9] Q13 ∧ (∀ r14 : Int, ∀ v15 : ab_Ob, Q13 (some (ab_I r14)) [v15, w1, w2, w3, w4, v6, w6, v7, w8, w9, w10, w11, w12, w13, v8, v9] → Post (some (ab_I r14)) [v15, w1, w2, w3, w4, v6, w6, v7, w8, w9, w10, w11, w12, w13, v8, v9]))))))) :
    ab_J x 0 [some (ab_O 0), some (ab_I a1), none] [] [w0, w1, w2, w3, w4, w5, w6, w7, w8, w9, w10, w11, w12, w13, w14, w15] kc ks := ab_go hx kX8_level.2 19 [] 0 h
