def mX8_climax : ab_M := ((yX8_climax, cX8_climax, 5, (some .int)), ([8, 4, 5, 5, 0, 1, 2, 7, 6, 1, 7, 7, 7, 7, 3, 3], [(0, 0), (0, 1), (0, 2), (0, 3), (0, 4), (0, 5), (0, 6), (0, 7), (0, 8), (0, 9), (0, 10), (0, 11), (0, 12), (0, 13), (0, 14), (0, 15)], [true, false, false, false, false, true, false, true, false, false, false, false, false, false, true, true], true, true, 0), (false, 8, 1))
def rX8_climax : List ab_R := [(0, .aload_n 0, 1, 0, 0, 0, [], none),
  (1, .aload_n 0, 1, 0, 0, 0, [], none),
  (2, .getfield 87, 3, 8, 15, 0, [], none),
  (5, .iload_n 1, 1, 0, 0, 0, [], none),
  (6, .invokevirtual 262, 3, 0, 0, 0, [], some mX8_cutLayer),
  (9, .istore_n 2, 1, 0, 0, 0, [], none),
  (10, .iload_n 2, 1, 0, 0, 0, [], none),
  (11, .ifCond .eq 9, 3, 0, 0, 0, [20], none),
  (14, .aload_n 0, 1, 0, 0, 0, [], none),
  (15, .iload_n 2, 1, 0, 0, 0, [], none),
  (16, .invokevirtual 101, 3, 0, 0, 0, [], some mX8_refuse),
  (19, .ireturn, 1, 0, 0, 0, [], none),
  (20, .aload_n 0, 1, 0, 0, 0, [], none),
  (21, .getfield 87, 3, 8, 15, 0, [], none),
  (24, .getfield 267, 3, 3, 1, 0, [], none),
  (27, .iconst 0, 1, 0, 0, 0, [], none),
  (28, .iaload, 1, 0, 0, 0, [], none),
  (29, .istore_n 3, 1, 0, 0, 0, [], none),
  (30, .iconst 1, 1, 0, 0, 0, [], none),
  (31, .istore 4, 2, 0, 0, 0, [], none),
  (33, .iload 4, 2, 0, 0, 0, [], none),
  (35, .aload_n 0, 1, 0, 0, 0, [], none),
  (36, .getfield 87, 3, 8, 15, 0, [], none),
  (39, .getfield 266, 3, 3, 0, 0, [], none),
  (42, .if_icmp .ge 50, 3, 0, 0, 0, [92], none),
  (45, .aload_n 0, 1, 0, 0, 0, [], none),
  (46, .getfield 23, 3, 8, 2, 0, [], none),
  (49, .getfield 155, 3, 5, 4, 0, [], none),
  (52, .aload_n 0, 1, 0, 0, 0, [], none),
  (53, .getfield 87, 3, 8, 15, 0, [], none),
  (56, .getfield 267, 3, 3, 1, 0, [], none),
  (59, .iload 4, 2, 0, 0, 0, [], none),
  (61, .iaload, 1, 0, 0, 0, [], none),
  (62, .iaload, 1, 0, 0, 0, [], none),
  (63, .aload_n 0, 1, 0, 0, 0, [], none),
  (64, .getfield 23, 3, 8, 2, 0, [], none),
  (67, .getfield 155, 3, 5, 4, 0, [], none),
  (70, .iload_n 3, 1, 0, 0, 0, [], none),
  (71, .iaload, 1, 0, 0, 0, [], none),
  (72, .if_icmp .le 14, 3, 0, 0, 0, [86], none),
  (75, .aload_n 0, 1, 0, 0, 0, [], none),
  (76, .getfield 87, 3, 8, 15, 0, [], none),
  (79, .getfield 267, 3, 3, 1, 0, [], none),
  (82, .iload 4, 2, 0, 0, 0, [], none),
  (84, .iaload, 1, 0, 0, 0, [], none),
  (85, .istore_n 3, 1, 0, 0, 0, [], none),
  (86, .iinc 4 1, 3, 0, 0, 0, [], none),
  (89, .goto (-56), 3, 0, 0, 0, [33], none),
  (92, .aload_n 0, 1, 0, 0, 0, [], none),
  (93, .iload_n 3, 1, 0, 0, 0, [], none),
  (94, .invokevirtual 124, 3, 0, 0, 0, [], some mX8_grant),
  (97, .ireturn, 1, 0, 0, 0, [], none)]
set_option maxRecDepth 100000 in
theorem kX8_climax : ab_def_ok mX8_climax rX8_climax := ⟨ab_mok_of 909 99 907 908 (by decide +kernel), [0, 0, 404, 0, 869, 0, 0, 0, 0, 0, 453, 0, 0, 404, 375, 0, 0, 0, 0, 0, 0, 0, 404, 373, 0, 0, 391, 154, 0, 404, 375, 0, 0, 0, 0, 391, 154, 0, 0, 0, 0, 404, 375, 0, 0, 0, 0, 0, 0, 0, 610, 0], by decide +kernel⟩
set_option maxRecDepth 100000 in
set_option maxHeartbeats 100000000 in
theorem vX8_climax_0 {x : ab_Cx} {d mc ms : Nat} {Post : Option ab_V → List ab_Ob → Prop} (hx : ab_At x mX8_climax d mc ms Post) (a1 : Int) (w0 w1 w2 w3 w4 w5 w6 w7 w8 w9 w10 w11 w12 w13 w14 w15 : ab_Ob) (kc ks : Nat)
    (h : (∃ mc1 ms2 : Nat, (kc + mc1 ≤ mc ∧ ks + ms2 ≤ ms) ∧ ∃ Q3 : Option ab_V → List ab_Ob → Prop, ab_Ct d mc1 ms2 mX8_cutLayer [ab_O 0, ab_O 14, ab_I a1] [w0, w1, w2, w3, w4, w5, w6, w7, w8, w9, w10, w11, w12, w13, w14, w15] Q3 ∧ (∀ r4 : Int, ∀ v5 : ab_Ob, ∀ v6 : ab_Ob, ∀ v7 : ab_Ob, ∀ v8 : ab_Ob, ∀ v9 : ab_Ob, Q3 (some (ab_I r4)) [v5, w1, w2, w3, w4, v6, w6, v7, w8, w9, w10, w11, w12, w13, v8, v9] → ((r4 = 0 → ((0 ≤ (0 : Int) ∧ (0 : Int) < (v8.2 1).1) ∧ ab_J x 33 [some (ab_O 0), none, none, some (ab_I ((v8.2 1).2 0)), some (ab_I 1)] [] [v5, w1, w2, w3, w4, v6, w6, v7, w8, w9, w10, w11, w12, w13, v8, v9] (kc + mc1) (ks + ms2))) ∧ (¬ r4 = 0 → (∃ Q10 : Option ab_V → List ab_Ob → Prop, ab_Ct d 0 0 mX8_refuse [ab_O 0, ab_I r4] [v5, w1, w2, w3, w4, v6, w6, v7, w8, w9, w10, w11, w12, w13, v8, v9] Q10 ∧ (∀ r11 : Int, ∀ v12 : ab_Ob, Q10 (some (ab_I r11)) [v12, w1, w2, w3, w4, v6, w6, v7, w8, w9, w10, w11, w12, w13, v8, v9] → Post (some (ab_I r11)) [v12, w1, w2, w3, w4, v6, w6, v7, w8, w9, w10, w11, w12, w13, v8, v9]))))))) :
    ab_J x 0 [some (ab_O 0), some (ab_I a1), none, none, none] [] [w0, w1, w2, w3, w4, w5, w6, w7, w8, w9, w10, w11, w12, w13, w14, w15] kc ks := ab_go hx kX8_climax.2 21 [(33, [true, false, false, true, true])] 0 h
set_option maxRecDepth 100000 in
set_option maxHeartbeats 100000000 in
theorem vX8_climax_33 {x : ab_Cx} {d mc ms : Nat} {Post : Option ab_V → List ab_Ob → Prop} (hx : ab_At x mX8_climax d mc ms Post) (l3 l4 : Int) (w0 w1 w2 w3 w4 w5 w6 w7 w8 w9 w10 w11 w12 w13 w14 w15 : ab_Ob) (kc ks : Nat)
    (h : (((w14.1 0) ≤ l4 → (∃ Q1 : Option ab_V → List ab_Ob → Prop, ab_Ct d 0 0 mX8_grant [ab_O 0, ab_I l3] [w0, w1, w2, w3, w4, w5, w6, w7, w8, w9, w10, w11, w12, w13, w14, w15] Q1 ∧ (∀ r2 : Int, ∀ v3 : ab_Ob, Q1 (some (ab_I r2)) [v3, w1, w2, w3, w4, w5, w6, w7, w8, w9, w10, w11, w12, w13, w14, w15] → Post (some (ab_I r2)) [v3, w1, w2, w3, w4, w5, w6, w7, w8, w9, w10, w11, w12, w13, w14, w15]))) ∧ (¬ (w14.1 0) ≤ l4 → ((0 ≤ l4 ∧ l4 < (w14.2 1).1) ∧ ((0 ≤ ((w14.2 1).2 l4) ∧ ((w14.2 1).2 l4) < (w3.2 4).1) ∧ ((0 ≤ l3 ∧ l3 < (w3.2 4).1) ∧ ((((w3.2 4).2 ((w14.2 1).2 l4)) ≤ ((w3.2 4).2 l3) → ((-2147483648 ≤ l4 + 1 ∧ l4 + 1 ≤ 2147483647) ∧ ab_J x 33 [some (ab_O 0), none, none, some (ab_I l3), some (ab_I (l4 + 1))] [] [w0, w1, w2, w3, w4, w5, w6, w7, w8, w9, w10, w11, w12, w13, w14, w15] kc ks)) ∧ (¬ ((w3.2 4).2 ((w14.2 1).2 l4)) ≤ ((w3.2 4).2 l3) → ((0 ≤ l4 ∧ l4 < (w14.2 1).1) ∧ ((-2147483648 ≤ l4 + 1 ∧ l4 + 1 ≤ 2147483647) ∧ ab_J x 33 [some (ab_O 0), none, none, some (ab_I ((w14.2 1).2 l4)), some (ab_I (l4 + 1))] [] [w0, w1, w2, w3, w4, w5, w6, w7, w8, w9, w10, w11, w12, w13, w14, w15] kc ks)))))))))) :
    ab_J x 33 [some (ab_O 0), none, none, some (ab_I l3), some (ab_I l4)] [] [w0, w1, w2, w3, w4, w5, w6, w7, w8, w9, w10, w11, w12, w13, w14, w15] kc ks := ab_go hx kX8_climax.2 33 [(33, [true, false, false, true, true])] 33 h
def mX8_widest : ab_M := ((yX8_widest, cX8_widest, 5, (some .int)), ([8, 4, 5, 5, 0, 1, 2, 7, 6, 1, 7, 7, 7, 7, 3, 3], [(0, 0), (0, 1), (0, 2), (0, 3), (0, 4), (0, 5), (0, 6), (0, 7), (0, 8), (0, 9), (0, 10), (0, 11), (0, 12), (0, 13), (0, 14), (0, 15)], [true, false, false, false, false, true, false, true, false, false, false, false, false, false, true, true], true, true, 0), (false, 8, 1))
def rX8_widest : List ab_R := [(0, .aload_n 0, 1, 0, 0, 0, [], none),
  (1, .aload_n 0, 1, 0, 0, 0, [], none),
  (2, .getfield 87, 3, 8, 15, 0, [], none),
  (5, .iload_n 1, 1, 0, 0, 0, [], none),
  (6, .invokevirtual 262, 3, 0, 0, 0, [], some mX8_cutLayer),
  (9, .istore_n 2, 1, 0, 0, 0, [], none),
  (10, .iload_n 2, 1, 0, 0, 0, [], none),
  (11, .ifCond .eq 9, 3, 0, 0, 0, [20], none),
  (14, .aload_n 0, 1, 0, 0, 0, [], none),
  (15, .iload_n 2, 1, 0, 0, 0, [], none),
  (16, .invokevirtual 101, 3, 0, 0, 0, [], some mX8_refuse),
  (19, .ireturn, 1, 0, 0, 0, [], none),
  (20, .iconst 0, 1, 0, 0, 0, [], none),
  (21, .istore_n 3, 1, 0, 0, 0, [], none),
  (22, .iconst 0, 1, 0, 0, 0, [], none),
  (23, .istore 4, 2, 0, 0, 0, [], none),
  (25, .iload 4, 2, 0, 0, 0, [], none),
  (27, .iconst 1, 1, 0, 0, 0, [], none),
  (28, .iadd, 1, 0, 0, 0, [], none),
  (29, .aload_n 0, 1, 0, 0, 0, [], none),
  (30, .getfield 87, 3, 8, 15, 0, [], none),
  (33, .getfield 266, 3, 3, 0, 0, [], none),
  (36, .if_icmp .ge 30, 3, 0, 0, 0, [66], none),
  (39, .iload_n 3, 1, 0, 0, 0, [], none),
  (40, .aload_n 0, 1, 0, 0, 0, [], none),
  (41, .getfield 87, 3, 8, 15, 0, [], none),
  (44, .aload_n 0, 1, 0, 0, 0, [], none),
  (45, .getfield 23, 3, 8, 2, 0, [], none),
  (48, .iload 4, 2, 0, 0, 0, [], none),
  (50, .invokevirtual 272, 3, 0, 0, 0, [], some mX3_stepFrom),
  (53, .invokestatic 275, 3, 0, 0, 12, [], none),
  (56, .invokestatic 287, 3, 0, 0, 10, [], none),
  (59, .istore_n 3, 1, 0, 0, 0, [], none),
  (60, .iinc 4 1, 3, 0, 0, 0, [], none),
  (63, .goto (-38), 3, 0, 0, 0, [25], none),
  (66, .aload_n 0, 1, 0, 0, 0, [], none),
  (67, .iload_n 3, 1, 0, 0, 0, [], none),
  (68, .invokevirtual 124, 3, 0, 0, 0, [], some mX8_grant),
  (71, .ireturn, 1, 0, 0, 0, [], none)]
set_option maxRecDepth 100000 in
theorem kX8_widest : ab_def_ok mX8_widest rX8_widest := ⟨ab_mok_of 913 99 911 912 (by decide +kernel), [0, 0, 404, 0, 869, 0, 0, 0, 0, 0, 453, 0, 0, 0, 0, 0, 0, 0, 0, 0, 404, 373, 0, 0, 0, 404, 0, 391, 0, 885, 889, 914, 0, 0, 0, 0, 0, 610, 0], by decide +kernel⟩
set_option maxRecDepth 100000 in
set_option maxHeartbeats 100000000 in
theorem vX8_widest_0 {x : ab_Cx} {d mc ms : Nat} {Post : Option ab_V → List ab_Ob → Prop} (hx : ab_At x mX8_widest d mc ms Post) (a1 : Int) (w0 w1 w2 w3 w4 w5 w6 w7 w8 w9 w10 w11 w12 w13 w14 w15 : ab_Ob) (kc ks : Nat)
    (h : (∃ mc1 ms2 : Nat, (kc + mc1 ≤ mc ∧ ks + ms2 ≤ ms) ∧ ∃ Q3 : Option ab_V → List ab_Ob → Prop, ab_Ct d mc1 ms2 mX8_cutLayer [ab_O 0, ab_O 14, ab_I a1] [w0, w1, w2, w3, w4, w5, w6, w7, w8, w9, w10, w11, w12, w13, w14, w15] Q3 ∧ (∀ r4 : Int, ∀ v5 : ab_Ob, ∀ v6 : ab_Ob, ∀ v7 : ab_Ob, ∀ v8 : ab_Ob, ∀ v9 : ab_Ob, Q3 (some (ab_I r4)) [v5, w1, w2, w3, w4, v6, w6, v7, w8, w9, w10, w11, w12, w13, v8, v9] → ((r4 = 0 → ab_J x 25 [some (ab_O 0), none, none, some (ab_I 0), some (ab_I 0)] [] [v5, w1, w2, w3, w4, v6, w6, v7, w8, w9, w10, w11, w12, w13, v8, v9] (kc + mc1) (ks + ms2)) ∧ (¬ r4 = 0 → (∃ Q10 : Option ab_V → List ab_Ob → Prop, ab_Ct d 0 0 mX8_refuse [ab_O 0, ab_I r4] [v5, w1, w2, w3, w4, v6, w6, v7, w8, w9, w10, w11, w12, w13, v8, v9] Q10 ∧ (∀ r11 : Int, ∀ v12 : ab_Ob, Q10 (some (ab_I r11)) [v12, w1, w2, w3, w4, v6, w6, v7, w8, w9, w10, w11, w12, w13, v8, v9] → Post (some (ab_I r11)) [v12, w1, w2, w3, w4, v6, w6, v7, w8, w9, w10, w11, w12, w13, v8, v9]))))))) :
    ab_J x 0 [some (ab_O 0), some (ab_I a1), none, none, none] [] [w0, w1, w2, w3, w4, w5, w6, w7, w8, w9, w10, w11, w12, w13, w14, w15] kc ks := ab_go hx kX8_widest.2 17 [(25, [true, false, false, true, true])] 0 h
set_option maxRecDepth 100000 in
set_option maxHeartbeats 100000000 in
theorem vX8_widest_25 {x : ab_Cx} {d mc ms : Nat} {Post : Option ab_V → List ab_Ob → Prop} (hx : ab_At x mX8_widest d mc ms Post) (l3 l4 : Int) (w0 w1 w2 w3 w4 w5 w6 w7 w8 w9 w10 w11 w12 w13 w14 w15 : ab_Ob) (kc ks : Nat)
    (h : ((-2147483648 ≤ l4 + 1 ∧ l4 + 1 ≤ 2147483647) ∧ (((w14.1 0) ≤ (l4 + 1) → (∃ Q1 : Option ab_V → List ab_Ob → Prop, ab_Ct d 0 0 mX8_grant [ab_O 0, ab_I l3] [w0, w1, w2, w3, w4, w5, w6, w7, w8, w9, w10, w11, w12, w13, w14, w15] Q1 ∧ (∀ r2 : Int, ∀ v3 : ab_Ob, Q1 (some (ab_I r2)) [v3, w1, w2, w3, w4, w5, w6, w7, w8, w9, w10, w11, w12, w13, w14, w15] → Post (some (ab_I r2)) [v3, w1, w2, w3, w4, w5, w6, w7, w8, w9, w10, w11, w12, w13, w14, w15]))) ∧ (¬ (w14.1 0) ≤ (l4 + 1) → (∃ Q4 : Option ab_V → List ab_Ob → Prop, ab_Ct d 0 0 mX3_stepFrom [ab_O 0, ab_O 1, ab_I l4] [w14, w3] Q4 ∧ (∀ r5 : Int, Q4 (some (ab_I r5)) [w14, w3] → ((-2147483648 ≤ -r5 ∧ -r5 ≤ 2147483647) ∧ ((-2147483648 ≤ l4 + 1 ∧ l4 + 1 ≤ 2147483647) ∧ ab_J x 25 [some (ab_O 0), none, none, some (ab_I (if l3 < (if 0 ≤ r5 then r5 else 0 - r5) then (if 0 ≤ r5 then r5 else 0 - r5) else l3)), some (ab_I (l4 + 1))] [] [w0, w1, w2, w3, w4, w5, w6, w7, w8, w9, w10, w11, w12, w13, w14, w15] kc ks)))))))) :
    ab_J x 25 [some (ab_O 0), none, none, some (ab_I l3), some (ab_I l4)] [] [w0, w1, w2, w3, w4, w5, w6, w7, w8, w9, w10, w11, w12, w13, w14, w15] kc ks := ab_go hx kX8_widest.2 24 [(25, [true, false, false, true, true])] 25 h
def mX8_echo : ab_M := ((yX8_echo, cX8_echo, 6, (some .int)), ([8, 4, 5, 5, 0, 1, 2, 7, 6, 1, 7, 7, 7, 7, 3, 3], [(0, 0), (0, 1), (0, 2), (0, 3), (0, 4), (0, 5), (0, 6), (0, 7), (0, 8), (0, 9), (0, 10), (0, 11), (0, 12), (0, 13), (0, 14), (0, 15)], [true, false, false, false, false, true, false, true, false, false, false, false, false, false, true, true], true, true, 0), (false, 8, 2))
def rX8_echo : List ab_R := [(0, .aload_n 0, 1, 0, 0, 0, [], none),
  (1, .aload_n 0, 1, 0, 0, 0, [], none),
  (2, .getfield 87, 3, 8, 15, 0, [], none),
  (5, .iload_n 1, 1, 0, 0, 0, [], none),
  (6, .invokevirtual 262, 3, 0, 0, 0, [], some mX8_cutLayer),
  (9, .istore_n 3, 1, 0, 0, 0, [], none),
  (10, .iload_n 3, 1, 0, 0, 0, [], none),
  (11, .ifCond .ne 13, 3, 0, 0, 0, [24], none),
  (14, .aload_n 0, 1, 0, 0, 0, [], none),
  (15, .aload_n 0, 1, 0, 0, 0, [], none),
  (16, .getfield 91, 3, 8, 16, 0, [], none),
  (19, .iload_n 2, 1, 0, 0, 0, [], none),
  (20, .invokevirtual 262, 3, 0, 0, 0, [], some mX8_cutLayer),
  (23, .istore_n 3, 1, 0, 0, 0, [], none),
  (24, .iload_n 3, 1, 0, 0, 0, [], none),
  (25, .ifCond .eq 9, 3, 0, 0, 0, [34], none),
  (28, .aload_n 0, 1, 0, 0, 0, [], none),
  (29, .iload_n 3, 1, 0, 0, 0, [], none),
  (30, .invokevirtual 101, 3, 0, 0, 0, [], some mX8_refuse),
  (33, .ireturn, 1, 0, 0, 0, [], none),
  (34, .iconst 0, 1, 0, 0, 0, [], none),
  (35, .istore 4, 2, 0, 0, 0, [], none),
  (37, .iconst 0, 1, 0, 0, 0, [], none),
  (38, .istore 5, 2, 0, 0, 0, [], none),
  (40, .iload 5, 2, 0, 0, 0, [], none),
  (42, .aload_n 0, 1, 0, 0, 0, [], none),
  (43, .getfield 87, 3, 8, 15, 0, [], none),
  (46, .getfield 266, 3, 3, 0, 0, [], none),
  (49, .iadd, 1, 0, 0, 0, [], none),
  (50, .aload_n 0, 1, 0, 0, 0, [], none),
  (51, .getfield 91, 3, 8, 16, 0, [], none),
  (54, .getfield 266, 3, 3, 0, 0, [], none),
  (57, .if_icmp .gt 32, 3, 0, 0, 0, [89], none),
  (60, .aload_n 0, 1, 0, 0, 0, [], none),
  (61, .getfield 87, 3, 8, 15, 0, [], none),
  (64, .aload_n 0, 1, 0, 0, 0, [], none),
  (65, .getfield 23, 3, 8, 2, 0, [], none),
  (68, .aload_n 0, 1, 0, 0, 0, [], none),
  (69, .getfield 91, 3, 8, 16, 0, [], none),
  (72, .iload 5, 2, 0, 0, 0, [], none),
  (74, .invokevirtual 290, 3, 0, 0, 0, [], some mX3_stepsAsIn),
  (77, .ifCond .eq 6, 3, 0, 0, 0, [83], none),
  (80, .iinc 4 1, 3, 0, 0, 0, [], none),
  (83, .iinc 5 1, 3, 0, 0, 0, [], none),
  (86, .goto (-46), 3, 0, 0, 0, [40], none),
  (89, .aload_n 0, 1, 0, 0, 0, [], none),
  (90, .iload 4, 2, 0, 0, 0, [], none),
  (92, .invokevirtual 124, 3, 0, 0, 0, [], some mX8_grant),
  (95, .ireturn, 1, 0, 0, 0, [], none)]
set_option maxRecDepth 100000 in
theorem kX8_echo : ab_def_ok mX8_echo rX8_echo := ⟨ab_mok_of 918 99 916 917 (by decide +kernel), [0, 0, 404, 0, 869, 0, 0, 0, 0, 0, 405, 0, 869, 0, 0, 0, 0, 0, 453, 0, 0, 0, 0, 0, 0, 0, 404, 373, 0, 0, 405, 373, 0, 0, 404, 0, 391, 0, 405, 0, 919, 0, 0, 0, 0, 0, 0, 610, 0], by decide +kernel⟩
set_option maxRecDepth 100000 in
set_option maxHeartbeats 100000000 in
theorem vX8_echo_0 {x : ab_Cx} {d mc ms : Nat} {Post : Option ab_V → List ab_Ob → Prop} (hx : ab_At x mX8_echo d mc ms Post) (a1 a2 : Int) (w0 w1 w2 w3 w4 w5 w6 w7 w8 w9 w10 w11 w12 w13 w14 w15 : ab_Ob) (kc ks : Nat)
    (h : (∃ mc1 ms2 : Nat, (kc + mc1 ≤ mc ∧ ks + ms2 ≤ ms) ∧ ∃ Q3 : Option ab_V → List ab_Ob → Prop, ab_Ct d mc1 ms2 mX8_cutLayer [ab_O 0, ab_O 14, ab_I a1] [w0, w1, w2, w3, w4, w5, w6, w7, w8, w9, w10, w11, w12, w13, w14, w15] Q3 ∧ (∀ r4 : Int, ∀ v5 : ab_Ob, ∀ v6 : ab_Ob, ∀ v7 : ab_Ob, ∀ v8 : ab_Ob, ∀ v9 : ab_Ob, Q3 (some (ab_I r4)) [v5, w1, w2, w3, w4, v6, w6, v7, w8, w9, w10, w11, w12, w13, v8, v9] → ((¬ r4 = 0 → ((r4 = 0 → ab_J x 40 [some (ab_O 0), none, none, none, some (ab_I 0), some (ab_I 0)] [] [v5, w1, w2, w3, w4, v6, w6, v7, w8, w9, w10, w11, w12, w13, v8, v9] (kc + mc1) (ks + ms2)) ∧ (¬ r4 = 0 → (∃ Q10 : Option ab_V → List ab_Ob → Prop, ab_Ct d 0 0 mX8_refuse [ab_O 0, ab_I r4] [v5, w1, w2, w3, w4, v6, w6, v7, w8, w9, w10, w11, w12, w13, v8, v9] Q10 ∧ (∀ r11 : Int, ∀ v12 : ab_Ob, Q10 (some (ab_I r11)) [v12, w1, w2, w3, w4, v6, w6, v7, w8, w9, w10, w11, w12, w13, v8, v9] → Post (some (ab_I r11)) [v12, w1, w2, w3, w4, v6, w6, v7, w8, w9, w10, w11, w12, w13, v8, v9]))))) ∧ (r4 = 0 → (∃ mc13 ms14 : Nat, ((kc + mc1) + mc13 ≤ mc ∧ (ks + ms2) + ms14 ≤ ms) ∧ ∃ Q15 : Option ab_V → List ab_Ob → Prop, ab_Ct d mc13 ms14 mX8_cutLayer [ab_O 0, ab_O 15, ab_I a2] [v5, w1, w2, w3, w4, v6, w6, v7, w8, w9, w10, w11, w12, w13, v8, v9] Q15 ∧ (∀ r16 : Int, ∀ v17 : ab_Ob, ∀ v18 : ab_Ob, ∀ v19 : ab_Ob, ∀ v20 : ab_Ob, ∀ v21 : ab_Ob, Q15 (some (ab_I r16)) [v17, w1, w2, w3, w4, v18, w6, v19, w8, w9, w10, w11, w12, w13, v20, v21] → ((r16 = 0 → ab_J x 40 [some (ab_O 0), none, none, none, some (ab_I 0), some (ab_I 0)] [] [v17, w1, w2, w3, w4, v18, w6, v19, w8, w9, w10, w11, w12, w13, v20, v21] ((kc + mc1) + mc13) ((ks + ms2) + ms14)) ∧ (¬ r16 = 0 → (∃ Q22 : Option ab_V → List ab_Ob → Prop, ab_Ct d 0 0 mX8_refuse [ab_O 0, ab_I r16] [v17, w1, w2, w3, w4, v18, w6, v19, w8, w9, w10, w11, w12, w13, v20, v21] Q22 ∧ (∀ r23 : Int, ∀ v24 : ab_Ob, Q22 (some (ab_I r23)) [v24, w1, w2, w3, w4, v18, w6, v19, w8, w9, w10, w11, w12, w13, v20, v21] → Post (some (ab_I r23)) [v24, w1, w2, w3, w4, v18, w6, v19, w8, w9, w10, w11, w12, w13, v20, v21]))))))))))) :
    ab_J x 0 [some (ab_O 0), some (ab_I a1), some (ab_I a2), none, none, none] [] [w0, w1, w2, w3, w4, w5, w6, w7, w8, w9, w10, w11, w12, w13, w14, w15] kc ks := ab_go hx kX8_echo.2 25 [(40, [true, false, false, false, true, true])] 0 h
set_option maxRecDepth 100000 in
set_option maxHeartbeats 100000000 in
theorem vX8_echo_40 {x : ab_Cx} {d mc ms : Nat} {Post : Option ab_V → List ab_Ob → Prop} (hx : ab_At x mX8_echo d mc ms Post) (l4 l5 : Int) (w0 w1 w2 w3 w4 w5 w6 w7 w8 w9 w10 w11 w12 w13 w14 w15 : ab_Ob) (kc ks : Nat)
    (h : ((-2147483648 ≤ l5 + (w14.1 0) ∧ l5 + (w14.1 0) ≤ 2147483647) ∧ (((w15.1 0) < (l5 + (w14.1 0)) → (∃ Q1 : Option ab_V → List ab_Ob → Prop, ab_Ct d 0 0 mX8_grant [ab_O 0, ab_I l4] [w0, w1, w2, w3, w4, w5, w6, w7, w8, w9, w10, w11, w12, w13, w14, w15] Q1 ∧ (∀ r2 : Int, ∀ v3 : ab_Ob, Q1 (some (ab_I r2)) [v3, w1, w2, w3, w4, w5, w6, w7, w8, w9, w10, w11, w12, w13, w14, w15] → Post (some (ab_I r2)) [v3, w1, w2, w3, w4, w5, w6, w7, w8, w9, w10, w11, w12, w13, w14, w15]))) ∧ (¬ (w15.1 0) < (l5 + (w14.1 0)) → (∃ Q4 : Option ab_V → List ab_Ob → Prop, ab_Ct d 0 0 mX3_stepsAsIn [ab_O 0, ab_O 1, ab_O 2, ab_I l5] [w14, w3, w15] Q4 ∧ (∀ r5 : Int, Q4 (some (ab_I r5)) [w14, w3, w15] → ((r5 = 0 → ((-2147483648 ≤ l5 + 1 ∧ l5 + 1 ≤ 2147483647) ∧ ab_J x 40 [some (ab_O 0), none, none, none, some (ab_I l4), some (ab_I (l5 + 1))] [] [w0, w1, w2, w3, w4, w5, w6, w7, w8, w9, w10, w11, w12, w13, w14, w15] kc ks)) ∧ (¬ r5 = 0 → ((-2147483648 ≤ l4 + 1 ∧ l4 + 1 ≤ 2147483647) ∧ ((-2147483648 ≤ l5 + 1 ∧ l5 + 1 ≤ 2147483647) ∧ ab_J x 40 [some (ab_O 0), none, none, none, some (ab_I (l4 + 1)), some (ab_I (l5 + 1))] [] [w0, w1, w2, w3, w4, w5, w6, w7, w8, w9, w10, w11, w12, w13, w14, w15] kc ks)))))))))) :
    ab_J x 40 [some (ab_O 0), none, none, none, some (ab_I l4), some (ab_I l5)] [] [w0, w1, w2, w3, w4, w5, w6, w7, w8, w9, w10, w11, w12, w13, w14, w15] kc ks := ab_go hx kX8_echo.2 26 [(40, [true, false, false, false, true, true])] 40 h
