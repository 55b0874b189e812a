def mX8_hasRule : ab_M := ((yX8_hasRule, cX8_hasRule, 2, (some .boolean)), ([8, 4, 5, 5, 0, 1, 2, 7, 6, 1, 7, 7, 7, 7, 3, 3], [(0, 0), (0, 1), (0, 2), (0, 3), (0, 4), (0, 5), (0, 6), (0, 7), (0, 8), (0, 9), (0, 10), (0, 11), (0, 12), (0, 13), (0, 14), (0, 15)], [false, false, false, false, false, false, false, false, false, false, false, false, false, false, false, false], false, false, 0), (false, 8, 1))
def rX8_hasRule : List ab_R := [(0, .aload_n 0, 1, 0, 0, 0, [], none),
  (1, .invokevirtual 130, 3, 0, 0, 0, [], some mX8_hasPiece),
  (4, .ifCond .eq 17, 3, 0, 0, 0, [21], none),
  (7, .iload_n 1, 1, 0, 0, 0, [], none),
  (8, .ifCond .lt 13, 3, 0, 0, 0, [21], none),
  (11, .iload_n 1, 1, 0, 0, 0, [], none),
  (12, .bipush 6, 2, 0, 0, 0, [], none),
  (14, .if_icmp .ge 7, 3, 0, 0, 0, [21], none),
  (17, .iconst 1, 1, 0, 0, 0, [], none),
  (18, .goto 4, 3, 0, 0, 0, [22], none),
  (21, .iconst 0, 1, 0, 0, 0, [], none),
  (22, .ireturn, 1, 0, 0, 0, [], none)]
set_option maxRecDepth 100000 in
theorem kX8_hasRule : ab_def_ok mX8_hasRule rX8_hasRule := ⟨ab_mok_of 736 99 735 26 (by decide +kernel), [0, 626, 0, 0, 0, 0, 0, 0, 0, 0, 0, 0], by decide +kernel⟩
set_option maxRecDepth 100000 in
set_option maxHeartbeats 100000000 in
theorem vX8_hasRule_0 {x : ab_Cx} {d mc ms : Nat} {Post : Option ab_V → List ab_Ob → Prop} (hx : ab_At x mX8_hasRule d mc ms Post) (a1 : Int) (w0 w1 w2 w3 w4 w5 w6 w7 w8 w9 w10 w11 w12 w13 w14 w15 : ab_Ob) (kc ks : Nat)
    (h : (∃ Q1 : Option ab_V → List ab_Ob → Prop, ab_Ct d 0 0 mX8_hasPiece [ab_O 0] [w0, w1, w2, w3, w4, w5, w6, w7, w8, w9, w10, w11, w12, w13, w14, w15] Q1 ∧ (∀ r2 : Int, Q1 (some (ab_I r2)) [w0, w1, w2, w3, w4, w5, w6, w7, w8, w9, w10, w11, w12, w13, w14, w15] → ((r2 = 0 → (((0 : Int) = 0 ∨ (0 : Int) = 1) ∧ Post (some (ab_I 0)) [w0, w1, w2, w3, w4, w5, w6, w7, w8, w9, w10, w11, w12, w13, w14, w15])) ∧ (¬ r2 = 0 → ((a1 < 0 → (((0 : Int) = 0 ∨ (0 : Int) = 1) ∧ Post (some (ab_I 0)) [w0, w1, w2, w3, w4, w5, w6, w7, w8, w9, w10, w11, w12, w13, w14, w15])) ∧ (¬ a1 < 0 → ((6 ≤ a1 → (((0 : Int) = 0 ∨ (0 : Int) = 1) ∧ Post (some (ab_I 0)) [w0, w1, w2, w3, w4, w5, w6, w7, w8, w9, w10, w11, w12, w13, w14, w15])) ∧ (¬ 6 ≤ a1 → (((1 : Int) = 0 ∨ (1 : Int) = 1) ∧ Post (some (ab_I 1)) [w0, w1, w2, w3, w4, w5, w6, w7, w8, w9, w10, w11, w12, w13, w14, w15])))))))))) :
    ab_J x 0 [some (ab_O 0), some (ab_I a1)] [] [w0, w1, w2, w3, w4, w5, w6, w7, w8, w9, w10, w11, w12, w13, w14, w15] kc ks := ab_go hx kX8_hasRule.2 15 [] 0 h
def mX8_weight : ab_M := ((yX8_weight, cX8_weight, 2, (some .int)), ([8, 4, 5, 5, 0, 1, 2, 7, 6, 1, 7, 7, 7, 7, 3, 3], [(0, 0), (0, 1), (0, 2), (0, 3), (0, 4), (0, 5), (0, 6), (0, 7), (0, 8), (0, 9), (0, 10), (0, 11), (0, 12), (0, 13), (0, 14), (0, 15)], [true, false, false, false, false, false, false, false, false, false, false, false, false, false, false, false], false, false, 0), (false, 8, 1))
def rX8_weight : List ab_R := [(0, .aload_n 0, 1, 0, 0, 0, [], none),
  (1, .iload_n 1, 1, 0, 0, 0, [], none),
  (2, .invokevirtual 178, 3, 0, 0, 0, [], some mX8_hasRule),
  (5, .ifCond .eq 19, 3, 0, 0, 0, [24], none),
  (8, .aload_n 0, 1, 0, 0, 0, [], none),
  (9, .aload_n 0, 1, 0, 0, 0, [], none),
  (10, .getfield 23, 3, 8, 2, 0, [], none),
  (13, .getfield 181, 3, 5, 6, 0, [], none),
  (16, .iload_n 1, 1, 0, 0, 0, [], none),
  (17, .iaload, 1, 0, 0, 0, [], none),
  (18, .invokevirtual 124, 3, 0, 0, 0, [], some mX8_grant),
  (21, .goto 8, 3, 0, 0, 0, [29], none),
  (24, .aload_n 0, 1, 0, 0, 0, [], none),
  (25, .iconst 1, 1, 0, 0, 0, [], none),
  (26, .invokevirtual 101, 3, 0, 0, 0, [], some mX8_refuse),
  (29, .ireturn, 1, 0, 0, 0, [], none)]
set_option maxRecDepth 100000 in
theorem kX8_weight : ab_def_ok mX8_weight rX8_weight := ⟨ab_mok_of 732 99 730 731 (by decide +kernel), [0, 0, 733, 0, 0, 0, 391, 160, 0, 0, 610, 0, 0, 0, 453, 0], by decide +kernel⟩
set_option maxRecDepth 100000 in
set_option maxHeartbeats 100000000 in
theorem vX8_weight_0 {x : ab_Cx} {d mc ms : Nat} {Post : Option ab_V → List ab_Ob → Prop} (hx : ab_At x mX8_weight d mc ms Post) (a1 : Int) (w0 w1 w2 w3 w4 w5 w6 w7 w8 w9 w10 w11 w12 w13 w14 w15 : ab_Ob) (kc ks : Nat)
    (h : (∃ Q1 : Option ab_V → List ab_Ob → Prop, ab_Ct d 0 0 mX8_hasRule [ab_O 0, ab_I a1] [w0, w1, w2, w3, w4, w5, w6, w7, w8, w9, w10, w11, w12, w13, w14, w15] Q1 ∧ (∀ r2 : Int, Q1 (some (ab_I r2)) [w0, w1, w2, w3, w4, w5, w6, w7, w8, w9, w10, w11, w12, w13, w14, w15] → ((r2 = 0 → (∃ Q3 : Option ab_V → List ab_Ob → Prop, ab_Ct d 0 0 mX8_refuse [ab_O 0, ab_I 1] [w0, w1, w2, w3, w4, w5, w6, w7, w8, w9, w10, w11, w12, w13, w14, w15] Q3 ∧ (∀ r4 : Int, ∀ v5 : ab_Ob, Q3 (some (ab_I r4)) [v5, w1, w2, w3, w4, w5, w6, w7, w8, w9, w10, w11, w12, w13, w14, w15] → Post (some (ab_I r4)) [v5, w1, w2, w3, w4, w5, w6, w7, w8, w9, w10, w11, w12, w13, w14, w15]))) ∧ (¬ r2 = 0 → ((0 ≤ a1 ∧ a1 < (w3.2 6).1) ∧ (∃ Q6 : Option ab_V → List ab_Ob → Prop, ab_Ct d 0 0 mX8_grant [ab_O 0, ab_I ((w3.2 6).2 a1)] [w0, w1, w2, w3, w4, w5, w6, w7, w8, w9, w10, w11, w12, w13, w14, w15] Q6 ∧ (∀ r7 : Int, ∀ v8 : ab_Ob, Q6 (some (ab_I r7)) [v8, w1, w2, w3, w4, w5, w6, w7, w8, w9, w10, w11, w12, w13, w14, w15] → Post (some (ab_I r7)) [v8, w1, w2, w3, w4, w5, w6, w7, w8, w9, w10, w11, w12, w13, w14, w15])))))))) :
    ab_J x 0 [some (ab_O 0), some (ab_I a1)] [] [w0, w1, w2, w3, w4, w5, w6, w7, w8, w9, w10, w11, w12, w13, w14, w15] kc ks := ab_go hx kX8_weight.2 17 [] 0 h
def mX8_hasSpan : ab_M := ((yX8_hasSpan, cX8_hasSpan, 3, (some .boolean)), ([8, 4, 5, 5, 0, 1, 2, 7, 6, 1, 7, 7, 7, 7, 3, 3], [(0, 0), (0, 1), (0, 2), (0, 3), (0, 4), (0, 5), (0, 6), (0, 7), (0, 8), (0, 9), (0, 10), (0, 11), (0, 12), (0, 13), (0, 14), (0, 15)], [false, false, false, false, false, false, false, false, false, false, false, false, false, false, false, false], false, false, 0), (false, 8, 2))
def rX8_hasSpan : List ab_R := [(0, .iload_n 1, 1, 0, 0, 0, [], none),
  (1, .ifCond .lt 23, 3, 0, 0, 0, [24], none),
  (4, .iload_n 1, 1, 0, 0, 0, [], none),
  (5, .iload_n 2, 1, 0, 0, 0, [], none),
  (6, .if_icmp .gt 18, 3, 0, 0, 0, [24], none),
  (9, .iload_n 2, 1, 0, 0, 0, [], none),
  (10, .aload_n 0, 1, 0, 0, 0, [], none),
  (11, .getfield 23, 3, 8, 2, 0, [], none),
  (14, .getfield 121, 3, 5, 3, 0, [], none),
  (17, .if_icmp .ge 7, 3, 0, 0, 0, [24], none),
  (20, .iconst 1, 1, 0, 0, 0, [], none),
  (21, .goto 4, 3, 0, 0, 0, [25], none),
  (24, .iconst 0, 1, 0, 0, 0, [], none),
  (25, .ireturn, 1, 0, 0, 0, [], none)]
set_option maxRecDepth 100000 in
theorem kX8_hasSpan : ab_def_ok mX8_hasSpan rX8_hasSpan := ⟨ab_mok_of 744 99 743 27 (by decide +kernel), [0, 0, 0, 0, 0, 0, 0, 391, 148, 0, 0, 0, 0, 0], by decide +kernel⟩
set_option maxRecDepth 100000 in
set_option maxHeartbeats 100000000 in
theorem vX8_hasSpan_0 {x : ab_Cx} {d mc ms : Nat} {Post : Option ab_V → List ab_Ob → Prop} (hx : ab_At x mX8_hasSpan d mc ms Post) (a1 a2 : Int) (w0 w1 w2 w3 w4 w5 w6 w7 w8 w9 w10 w11 w12 w13 w14 w15 : ab_Ob) (kc ks : Nat)
    (h : ((a1 < 0 → (((0 : Int) = 0 ∨ (0 : Int) = 1) ∧ Post (some (ab_I 0)) [w0, w1, w2, w3, w4, w5, w6, w7, w8, w9, w10, w11, w12, w13, w14, w15])) ∧ (¬ a1 < 0 → ((a2 < a1 → (((0 : Int) = 0 ∨ (0 : Int) = 1) ∧ Post (some (ab_I 0)) [w0, w1, w2, w3, w4, w5, w6, w7, w8, w9, w10, w11, w12, w13, w14, w15])) ∧ (¬ a2 < a1 → (((w3.1 3) ≤ a2 → (((0 : Int) = 0 ∨ (0 : Int) = 1) ∧ Post (some (ab_I 0)) [w0, w1, w2, w3, w4, w5, w6, w7, w8, w9, w10, w11, w12, w13, w14, w15])) ∧ (¬ (w3.1 3) ≤ a2 → (((1 : Int) = 0 ∨ (1 : Int) = 1) ∧ Post (some (ab_I 1)) [w0, w1, w2, w3, w4, w5, w6, w7, w8, w9, w10, w11, w12, w13, w14, w15])))))))) :
    ab_J x 0 [some (ab_O 0), some (ab_I a1), some (ab_I a2)] [] [w0, w1, w2, w3, w4, w5, w6, w7, w8, w9, w10, w11, w12, w13, w14, w15] kc ks := ab_go hx kX8_hasSpan.2 17 [] 0 h
def mX8_breaks : ab_M := ((yX8_breaks, cX8_breaks, 3, (some .int)), ([8, 4, 5, 5, 0, 1, 2, 7, 6, 1, 7, 7, 7, 7, 3, 3], [(0, 0), (0, 1), (0, 2), (0, 3), (0, 4), (0, 5), (0, 6), (0, 7), (0, 8), (0, 9), (0, 10), (0, 11), (0, 12), (0, 13), (0, 14), (0, 15)], [true, false, false, false, false, true, false, false, false, false, false, false, false, false, false, false], true, true, 0), (false, 8, 2))
def rX8_breaks : List ab_R := [(0, .aload_n 0, 1, 0, 0, 0, [], none),
  (1, .iload_n 1, 1, 0, 0, 0, [], none),
  (2, .iload_n 2, 1, 0, 0, 0, [], none),
  (3, .invokevirtual 184, 3, 0, 0, 0, [], some mX8_hasSpan),
  (6, .ifCond .eq 19, 3, 0, 0, 0, [25], none),
  (9, .aload_n 0, 1, 0, 0, 0, [], none),
  (10, .aload_n 0, 1, 0, 0, 0, [], none),
  (11, .invokevirtual 188, 3, 0, 0, 0, [], some mX8_freshSpans),
  (14, .iload_n 1, 1, 0, 0, 0, [], none),
  (15, .iload_n 2, 1, 0, 0, 0, [], none),
  (16, .invokevirtual 192, 3, 0, 0, 0, [], some mX1_least),
  (19, .invokevirtual 124, 3, 0, 0, 0, [], some mX8_grant),
  (22, .goto 8, 3, 0, 0, 0, [30], none),
  (25, .aload_n 0, 1, 0, 0, 0, [], none),
  (26, .iconst 1, 1, 0, 0, 0, [], none),
  (27, .invokevirtual 101, 3, 0, 0, 0, [], some mX8_refuse),
  (30, .ireturn, 1, 0, 0, 0, [], none)]
set_option maxRecDepth 100000 in
theorem kX8_breaks : ab_def_ok mX8_breaks rX8_breaks := ⟨ab_mok_of 740 99 738 739 (by decide +kernel), [0, 0, 0, 741, 0, 0, 0, 650, 0, 0, 745, 610, 0, 0, 0, 453, 0], by decide +kernel⟩
set_option maxRecDepth 100000 in
set_option maxHeartbeats 100000000 in
theorem vX8_breaks_0 {x : ab_Cx} {d mc ms : Nat} {Post : Option ab_V → List ab_Ob → Prop} (hx : ab_At x mX8_breaks d mc ms Post) (a1 a2 : Int) (w0 w1 w2 w3 w4 w5 w6 w7 w8 w9 w10 w11 w12 w13 w14 w15 : ab_Ob) (kc ks : Nat)
    (h : (∃ Q1 : Option ab_V → List ab_Ob → Prop, ab_Ct d 0 0 mX8_hasSpan [ab_O 0, ab_I a1, ab_I a2] [w0, w1, w2, w3, w4, w5, w6, w7, w8, w9, w10, w11, w12, w13, w14, w15] Q1 ∧ (∀ r2 : Int, Q1 (some (ab_I r2)) [w0, w1, w2, w3, w4, w5, w6, w7, w8, w9, w10, w11, w12, w13, w14, w15] → ((r2 = 0 → (∃ Q3 : Option ab_V → List ab_Ob → Prop, ab_Ct d 0 0 mX8_refuse [ab_O 0, ab_I 1] [w0, w1, w2, w3, w4, w5, w6, w7, w8, w9, w10, w11, w12, w13, w14, w15] Q3 ∧ (∀ r4 : Int, ∀ v5 : ab_Ob, Q3 (some (ab_I r4)) [v5, w1, w2, w3, w4, w5, w6, w7, w8, w9, w10, w11, w12, w13, w14, w15] → Post (some (ab_I r4)) [v5, w1, w2, w3, w4, w5, w6, w7, w8, w9, w10, w11, w12, w13, w14, w15]))) ∧ (¬ r2 = 0 → (∃ mc6 ms7 : Nat, (kc + mc6 ≤ mc ∧ ks + ms7 ≤ ms) ∧ ∃ Q8 : Option ab_V → List ab_Ob → Prop, ab_Ct d mc6 ms7 mX8_freshSpans [ab_O 0] [w0, w1, w2, w3, w4, w5, w6, w7, w8, w9, w10, w11, w12, w13, w14, w15] Q8 ∧ (∀ v9 : ab_Ob, ∀ v10 : ab_Ob, Q8 (some (ab_O 5)) [v9, w1, w2, w3, w4, v10, w6, w7, w8, w9, w10, w11, w12, w13, w14, w15] → (∃ Q11 : Option ab_V → List ab_Ob → Prop, ab_Ct d 0 0 mX1_least [ab_O 0, ab_I a1, ab_I a2] [v10] Q11 ∧ (∀ r12 : Int, Q11 (some (ab_I r12)) [v10] → (∃ Q13 : Option ab_V → List ab_Ob → Prop, ab_Ct d 0 0 mX8_grant [ab_O 0, ab_I r12] [v9, w1, w2, w3, w4, v10, w6, w7, w8, w9, w10, w11, w12, w13, w14, w15] Q13 ∧ (∀ r14 : Int, ∀ v15 : ab_Ob, Q13 (some (ab_I r14)) [v15, w1, w2, w3, w4, v10, w6, w7, w8, w9, w10, w11, w12, w13, w14, w15] → Post (some (ab_I r14)) [v15, w1, w2, w3, w4, v10, w6, w7, w8, w9, w10, w11, w12, w13, w14, w15]))))))))))) :
    ab_J x 0 [some (ab_O 0), some (ab_I a1), some (ab_I a2)] [] [w0, w1, w2, w3, w4, w5, w6, w7, w8, w9, w10, w11, w12, w13, w14, w15] kc ks := ab_go hx kX8_breaks.2 18 [] 0 h
def mX8_head : ab_M := ((yX8_head, cX8_head, 3, (some .int)), ([8, 4, 5, 5, 0, 1, 2, 7, 6, 1, 7, 7, 7, 7, 3, 3], [(0, 0), (0, 1), (0, 2), (0, 3), (0, 4), (0, 5), (0, 6), (0, 7), (0, 8), (0, 9), (0, 10), (0, 11), (0, 12), (0, 13), (0, 14), (0, 15)], [true, false, false, false, false, true, false, false, false, false, false, false, false, false, false, false], true, true, 0), (false, 8, 2))
def rX8_head : List ab_R := [(0, .aload_n 0, 1, 0, 0, 0, [], none),
  (1, .iload_n 1, 1, 0, 0, 0, [], none),
  (2, .iload_n 2, 1, 0, 0, 0, [], none),
  (3, .invokevirtual 184, 3, 0, 0, 0, [], some mX8_hasSpan),
  (6, .ifCond .eq 19, 3, 0, 0, 0, [25], none),
  (9, .aload_n 0, 1, 0, 0, 0, [], none),
  (10, .aload_n 0, 1, 0, 0, 0, [], none),
  (11, .invokevirtual 188, 3, 0, 0, 0, [], some mX8_freshSpans),
  (14, .iload_n 1, 1, 0, 0, 0, [], none),
  (15, .iload_n 2, 1, 0, 0, 0, [], none),
  (16, .invokevirtual 195, 3, 0, 0, 0, [], some mX1_bestHead),
  (19, .invokevirtual 124, 3, 0, 0, 0, [], some mX8_grant),
  (22, .goto 8, 3, 0, 0, 0, [30], none),
  (25, .aload_n 0, 1, 0, 0, 0, [], none),
  (26, .iconst 1, 1, 0, 0, 0, [], none),
  (27, .invokevirtual 101, 3, 0, 0, 0, [], some mX8_refuse),
  (30, .ireturn, 1, 0, 0, 0, [], none)]
set_option maxRecDepth 100000 in
theorem kX8_head : ab_def_ok mX8_head rX8_head := ⟨ab_mok_of 753 99 751 752 (by decide +kernel), [0, 0, 0, 741, 0, 0, 0, 650, 0, 0, 754, 610, 0, 0, 0, 453, 0], by decide +kernel⟩
set_option maxRecDepth 100000 in
set_option maxHeartbeats 100000000 in
theorem vX8_head_0 {x : ab_Cx} {d mc ms : Nat} {Post : Option ab_V → List ab_Ob → Prop} (hx : ab_At x mX8_head d mc ms Post) (a1 a2 : Int) (w0 w1 w2 w3 w4 w5 w6 w7 w8 w9 w10 w11 w12 w13 w14 w15 : ab_Ob) (kc ks : Nat)
    (h : (∃ Q1 : Option ab_V → List ab_Ob → Prop, ab_Ct d 0 0 mX8_hasSpan [ab_O 0, ab_I a1, ab_I a2] [w0, w1, w2, w3, w4, w5, w6, w7, w8, w9, w10, w11, w12, w13, w14, w15] Q1 ∧ (∀ r2 : Int, Q1 (some (ab_I r2)) [w0, w1, w2, w3, w4, w5, w6, w7, w8, w9, w10, w11, w12, w13, w14, w15] → ((r2 = 0 → (∃ Q3 : Option ab_V → List ab_Ob → Prop, ab_Ct d 0 0 mX8_refuse [ab_O 0, ab_I 1] [w0, w1, w2, w3, w4, w5, w6, w7, w8, w9, w10, w11, w12, w13, w14, w15] Q3 ∧ (∀ r4 : Int, ∀ v5 : ab_Ob, Q3 (some (ab_I r4)) [v5, w1, w2, w3, w4, w5, w6, w7, w8, w9, w10, w11, w12, w13, w14, w15] → Post (some (ab_I r4)) [v5, w1, w2, w3, w4, w5, w6, w7, w8, w9, w10, w11, w12, w13, w14, w15]))) ∧ (¬ r2 = 0 → (∃ mc6 ms7 : Nat, (kc + mc6 ≤ mc ∧ ks + ms7 ≤ ms) ∧ ∃ Q8 : Option ab_V → List ab_Ob → Prop, ab_Ct d mc6 ms7 mX8_freshSpans [ab_O 0] [w0, w1, w2, w3, w4, w5, w6, w7, w8, w9, w10, w11, w12, w13, w14, w15] Q8 ∧ (∀ v9 : ab_Ob, ∀ v10 : ab_Ob, Q8 (some (ab_O 5)) [v9, w1, w2, w3, w4, v10, w6, w7, w8, w9, w10, w11, w12, w13, w14, w15] → (∃ Q11 : Option ab_V → List ab_Ob → Prop, ab_Ct d 0 0 mX1_bestHead [ab_O 0, ab_I a1, ab_I a2] [v10] Q11 ∧ (∀ r12 : Int, Q11 (some (ab_I r12)) [v10] → (∃ Q13 : Option ab_V → List ab_Ob → Prop, ab_Ct d 0 0 mX8_grant [ab_O 0, ab_I r12] [v9, w1, w2, w3, w4, v10, w6, w7, w8, w9, w10, w11, w12, w13, w14, w15] Q13 ∧ (∀ r14 : Int, ∀ v15 : ab_Ob, Q13 (some (ab_I r14)) [v15, w1, w2, w3, w4, v10, w6, w7, w8, w9, w10, w11, w12, w13, w14, w15] → Post (some (ab_I r14)) [v15, w1, w2, w3, w4, v10, w6, w7, w8, w9, w10, w11, w12, w13, w14, w15]))))))))))) :
    ab_J x 0 [some (ab_O 0), some (ab_I a1), some (ab_I a2)] [] [w0, w1, w2, w3, w4, w5, w6, w7, w8, w9, w10, w11, w12, w13, w14, w15] kc ks := ab_go hx kX8_head.2 18 [] 0 h
def mX8_split : ab_M := ((yX8_split, cX8_split, 4, (some .int)), ([8, 4, 5, 5, 0, 1, 2, 7, 6, 1, 7, 7, 7, 7, 3, 3], [(0, 0), (0, 1), (0, 2), (0, 3), (0, 4), (0, 5), (0, 6), (0, 7), (0, 8), (0, 9), (0, 10), (0, 11), (0, 12), (0, 13), (0, 14), (0, 15)], [true, false, false, false, false, true, false, false, false, false, false, false, false, false, false, false], true, true, 0), (false, 8, 2))
def rX8_split : List ab_R := [(0, .aload_n 0, 1, 0, 0, 0, [], none),
  (1, .iload_n 1, 1, 0, 0, 0, [], none),
  (2, .iload_n 2, 1, 0, 0, 0, [], none),
  (3, .invokevirtual 184, 3, 0, 0, 0, [], some mX8_hasSpan),
  (6, .ifCond .ne 9, 3, 0, 0, 0, [15], none),
  (9, .aload_n 0, 1, 0, 0, 0, [], none),
  (10, .iconst 1, 1, 0, 0, 0, [], none),
  (11, .invokevirtual 101, 3, 0, 0, 0, [], some mX8_refuse),
  (14, .ireturn, 1, 0, 0, 0, [], none),
  (15, .iload_n 1, 1, 0, 0, 0, [], none),
  (16, .iload_n 2, 1, 0, 0, 0, [], none),
  (17, .if_icmp .ne 10, 3, 0, 0, 0, [27], none),
  (20, .aload_n 0, 1, 0, 0, 0, [], none),
  (21, .bipush (-2), 2, 0, 0, 0, [], none),
  (23, .invokevirtual 124, 3, 0, 0, 0, [], some mX8_grant),
  (26, .ireturn, 1, 0, 0, 0, [], none),
  (27, .aload_n 0, 1, 0, 0, 0, [], none),
  (28, .invokevirtual 188, 3, 0, 0, 0, [], some mX8_freshSpans),
  (31, .astore_n 3, 1, 0, 0, 0, [], none),
  (32, .aload_n 0, 1, 0, 0, 0, [], none),
  (33, .aload_n 3, 1, 0, 0, 0, [], none),
  (34, .iload_n 1, 1, 0, 0, 0, [], none),
  (35, .iload_n 2, 1, 0, 0, 0, [], none),
  (36, .aload_n 3, 1, 0, 0, 0, [], none),
  (37, .iload_n 1, 1, 0, 0, 0, [], none),
  (38, .iload_n 2, 1, 0, 0, 0, [], none),
  (39, .invokevirtual 195, 3, 0, 0, 0, [], some mX1_bestHead),
  (42, .invokevirtual 198, 3, 0, 0, 0, [], some mX1_bestSplit),
  (45, .invokevirtual 124, 3, 0, 0, 0, [], some mX8_grant),
  (48, .ireturn, 1, 0, 0, 0, [], none)]
set_option maxRecDepth 100000 in
theorem kX8_split : ab_def_ok mX8_split rX8_split := ⟨ab_mok_of 758 99 756 757 (by decide +kernel), [0, 0, 0, 741, 0, 0, 0, 453, 0, 0, 0, 0, 0, 0, 610, 0, 0, 650, 0, 0, 0, 0, 0, 0, 0, 0, 754, 759, 610, 0], by decide +kernel⟩
set_option maxRecDepth 100000 in
set_option maxHeartbeats 100000000 in
theorem vX8_split_0 {x : ab_Cx} {d mc ms : Nat} {Post : Option ab_V → List ab_Ob → Prop} (hx : ab_At x mX8_split d mc ms Post) (a1 a2 : Int) (w0 w1 w2 w3 w4 w5 w6 w7 w8 w9 w10 w11 w12 w13 w14 w15 : ab_Ob) (kc ks : Nat)
    (h : (∃ Q1 : Option ab_V → List ab_Ob → Prop, ab_Ct d 0 0 mX8_hasSpan [ab_O 0, ab_I a1, ab_I a2] [w0, w1, w2, w3, w4, w5, w6, w7, w8, w9, w10, w11, w12, w13, w14, w15] Q1 ∧ (∀ r2 : Int, Q1 (some (ab_I r2)) [w0, w1, w2, w3, w4, w5, w6, w7, w8, w9, w10, w11, w12, w13, w14, w15] → ((¬ r2 = 0 → ((¬ a1 = a2 → (∃ mc3 ms4 : Nat, (kc + mc3 ≤ mc ∧ ks + ms4 ≤ ms) ∧ ∃ Q5 : Option ab_V → List ab_Ob → Prop, ab_Ct d mc3 ms4 mX8_freshSpans [ab_O 0] [w0, w1, w2, w3, w4, w5, w6, w7, w8, w9, w10, w11, w12, w13, w14, w15] Q5 ∧ (∀ v6 : ab_Ob, ∀ v7 : ab_Ob, Q5 (some (ab_O 5)) [v6, w1, w2, w3, w4, v7, w6, w7, w8, w9, w10, w11, w12, w13, w14, w15] → (∃ Q8 : Option ab_V → List ab_Ob → Prop, ab_Ct d 0 0 mX1_bestHead [ab_O 0, ab_I a1, ab_I a2] [v7] Q8 ∧ (∀ r9 : Int, Q8 (some (ab_I r9)) [v7] → (∃ Q10 : Option ab_V → List ab_Ob → Prop, ab_Ct d 0 0 mX1_bestSplit [ab_O 0, ab_I a1, ab_I a2, ab_I r9] [v7] Q10 ∧ (∀ r11 : Int, Q10 (some (ab_I r11)) [v7] → (∃ Q12 : Option ab_V → List ab_Ob → Prop, ab_Ct d 0 0 mX8_grant [ab_O 0, ab_I r11] [v6, w1, w2, w3, w4, v7, w6, w7, w8, w9, w10, w11, w12, w13, w14, w15] Q12 ∧ (∀ r13 : Int, ∀ v14 : ab_Ob, Q12 (some (ab_I r13)) [v14, w1, w2, w3, w4, v7, w6, w7, w8, w9, w10, w11, w12, w13, w14, w15] → Post (some (ab_I r13)) [v14, w1, w2, w3, w4, v7, w6, w7, w8, w9, w10, w11, w12, w13, w14, w15]))))))))) ∧ (a1 = a2 → (∃ Q15 : Option ab_V → List ab_Ob → Prop, ab_Ct d 0 0 mX8_grant [ab_O 0, ab_I (-2)] [w0, w1, w2, w3, w4, w5, w6, w7, w8, w9, w10, w11, w12, w13, w14, w15] Q15 ∧ (∀ r16 : Int, ∀ v17 : ab_Ob, Q15 (some (ab_I r16)) [v17, w1, w2, w3, w4, w5, w6, w7, w8, w9, w10, w11, w12, w13, w14, w15] → Post (some (ab_I r16)) [v17, w1, w2, w3, w4, w5, w6, w7, w8, w9, w10, w11, w12, w13, w14, w15]))))) ∧ (r2 = 0 → (∃ Q18 : Option ab_V → List ab_Ob → Prop, ab_Ct d 0 0 mX8_refuse [ab_O 0, ab_I 1] [w0, w1, w2, w3, w4, w5, w6, w7, w8, w9, w10, w11, w12, w13, w14, w15] Q18 ∧ (∀ r19 : Int, ∀ v20 : ab_Ob, Q18 (some (ab_I r19)) [v20, w1, w2, w3, w4, w5, w6, w7, w8, w9, w10, w11, w12, w13, w14, w15] → Post (some (ab_I r19)) [v20, w1, w2, w3, w4, w5, w6, w7, w8, w9, w10, w11, w12, w13, w14, w15]))))))) :
    ab_J x 0 [some (ab_O 0), some (ab_I a1), some (ab_I a2), none] [] [w0, w1, w2, w3, w4, w5, w6, w7, w8, w9, w10, w11, w12, w13, w14, w15] kc ks := ab_go hx kX8_split.2 26 [] 0 h
