/-! piece and bare: rows, conditions -/
def mX4_swap : ab_M := ((yX4_swap, cX4_swap, 3, (some (.object "HeadTrees$Score"))), ([4, 5, 5], [(0, 0), (0, 1), (1, 0)], [true, true, true], true, true, 0), (false, 4, 1))
def mX8_piece : ab_M := ((yX8_piece, cX8_piece, 2, (some .int)), ([8, 4, 5, 5, 0, 1, 2, 7, 6, 1, 7, 7, 7, 7, 3, 3], [(0, 0), (0, 1), (0, 2), (0, 3), (0, 4), (0, 5), (0, 6), (0, 7), (0, 8), (0, 9), (0, 10), (0, 11), (0, 12), (0, 13), (0, 14), (0, 15)], [true, true, true, true, true, true, true, true, true, true, true, true, true, true, true, true], true, true, 0), (false, 8, 1))
def rX8_piece : List ab_R := [(0, .iload_n 1, 1, 0, 0, 0, [], none),
  (1, .ifCond .lt 14, 3, 0, 0, 0, [15], none),
  (4, .iload_n 1, 1, 0, 0, 0, [], none),
  (5, .aload_n 0, 1, 0, 0, 0, [], none),
  (6, .getfield 16, 3, 8, 1, 0, [], none),
  (9, .getfield 94, 3, 4, 0, 0, [], none),
  (12, .if_icmp .le 9, 3, 0, 0, 0, [21], none),
  (15, .aload_n 0, 1, 0, 0, 0, [], none),
  (16, .iconst 2, 1, 0, 0, 0, [], none),
  (17, .invokevirtual 101, 3, 0, 0, 0, [], some mX8_refuse),
  (20, .ireturn, 1, 0, 0, 0, [], none),
  (21, .aload_n 0, 1, 0, 0, 0, [], none),
  (22, .getfield 16, 3, 8, 1, 0, [], none),
  (25, .iload_n 1, 1, 0, 0, 0, [], none),
  (26, .invokevirtual 105, 3, 0, 0, 0, [], some mX4_read),
  (29, .aload_n 0, 1, 0, 0, 0, [], none),
  (30, .getfield 16, 3, 8, 1, 0, [], none),
  (33, .getfield 108, 3, 4, 10, 0, [], none),
  (36, .ifCond .eq 9, 3, 0, 0, 0, [45], none),
  (39, .aload_n 0, 1, 0, 0, 0, [], none),
  (40, .iconst 4, 1, 0, 0, 0, [], none),
  (41, .invokevirtual 101, 3, 0, 0, 0, [], some mX8_refuse),
  (44, .ireturn, 1, 0, 0, 0, [], none),
  (45, .aload_n 0, 1, 0, 0, 0, [], none),
  (46, .aload_n 0, 1, 0, 0, 0, [], none),
  (47, .getfield 16, 3, 8, 1, 0, [], none),
  (50, .aload_n 0, 1, 0, 0, 0, [], none),
  (51, .getfield 23, 3, 8, 2, 0, [], none),
  (54, .invokevirtual 111, 3, 0, 0, 0, [], some mX4_swap),
  (57, .putfield 23, 3, 8, 2, 0, [], none),
  (60, .aload_n 0, 1, 0, 0, 0, [], none),
  (61, .getfield 30, 3, 8, 3, 0, [], none),
  (64, .iconst 0, 1, 0, 0, 0, [], none),
  (65, .putfield 115, 3, 0, 0, 0, [], none),
  (68, .aload_n 0, 1, 0, 0, 0, [], none),
  (69, .iconst 0, 1, 0, 0, 0, [], none),
  (70, .putfield 75, 3, 8, 12, 0, [], none),
  (73, .aload_n 0, 1, 0, 0, 0, [], none),
  (74, .invokevirtual 118, 3, 0, 0, 0, [], some mX8_renew),
  (77, .aload_n 0, 1, 0, 0, 0, [], none),
  (78, .aload_n 0, 1, 0, 0, 0, [], none),
  (79, .getfield 23, 3, 8, 2, 0, [], none),
  (82, .getfield 121, 3, 5, 3, 0, [], none),
  (85, .invokevirtual 124, 3, 0, 0, 0, [], some mX8_grant),
  (88, .ireturn, 1, 0, 0, 0, [], none)]
set_option maxRecDepth 100000 in
theorem kX8_piece : ab_def_ok mX8_piece rX8_piece := ⟨ab_mok_of 452 99 450 451 (by decide +kernel), [0, 0, 0, 0, 390, 192, 0, 0, 0, 453, 0, 0, 390, 0, 457, 0, 390, 204, 0, 0, 0, 453, 0, 0, 0, 390, 0, 391, 598, 391, 0, 392, 0, 238, 0, 0, 401, 0, 602, 0, 0, 391, 148, 610, 0], by decide +kernel⟩
set_option maxRecDepth 100000 in
set_option maxHeartbeats 100000000 in
theorem vX8_piece_0 {x : ab_Cx} {d mc ms : Nat} {Post : Option ab_V → List ab_Ob → Prop} (hx : ab_At x mX8_piece d mc ms Post) (a1 : Int) (w0 w1 w2 w3 w4 w5 w6 w7 w8 w9 w10 w11 w12 w13 w14 w15 : ab_Ob) (kc ks : Nat)
    (h : ((a1 < 0 → (∃ Q1 : Option ab_V → List ab_Ob → Prop, ab_Ct d 0 0 mX8_refuse [ab_O 0, ab_I 2] [w0, w1, w2, w3, w4, w5, w6, w7, w8, w9, w10, w11, w12, w13, w14, w15] Q1 ∧ (∀ r2 : Int, ∀ v3 : ab_Ob, Q1 (some (ab_I r2)) [v3, w1, w2, w3, w4, w5, w6, w7, w8, w9, w10, w11, w12, w13, w14, w15] → Post (some (ab_I r2)) [v3, w1, w2, w3, w4, w5, w6, w7, w8, w9, w10, w11, w12, w13, w14, w15]))) ∧ (¬ a1 < 0 → ((a1 ≤ (w1.1 0) → (∃ Q4 : Option ab_V → List ab_Ob → Prop, ab_Ct d 0 0 mX4_read [ab_O 0, ab_I a1] [w1, w2] Q4 ∧ (∀ v5 : ab_Ob, ∀ v6 : ab_Ob, Q4 none [v5, v6] → (((v5.1 10) = 0 → ab_J x 54 [some (ab_O 0), none] [ab_O 3, ab_O 1, ab_O 0] [w0, v5, v6, w3, w4, w5, w6, w7, w8, w9, w10, w11, w12, w13, w14, w15] kc ks) ∧ (¬ (v5.1 10) = 0 → (∃ Q7 : Option ab_V → List ab_Ob → Prop, ab_Ct d 0 0 mX8_refuse [ab_O 0, ab_I 4] [w0, v5, v6, w3, w4, w5, w6, w7, w8, w9, w10, w11, w12, w13, w14, w15] Q7 ∧ (∀ r8 : Int, ∀ v9 : ab_Ob, Q7 (some (ab_I r8)) [v9, v5, v6, w3, w4, w5, w6, w7, w8, w9, w10, w11, w12, w13, w14, w15] → Post (some (ab_I r8)) [v9, v5, v6, w3, w4, w5, w6, w7, w8, w9, w10, w11, w12, w13, w14, w15]))))))) ∧ (¬ a1 ≤ (w1.1 0) → (∃ Q10 : Option ab_V → List ab_Ob → Prop, ab_Ct d 0 0 mX8_refuse [ab_O 0, ab_I 2] [w0, w1, w2, w3, w4, w5, w6, w7, w8, w9, w10, w11, w12, w13, w14, w15] Q10 ∧ (∀ r11 : Int, ∀ v12 : ab_Ob, Q10 (some (ab_I r11)) [v12, w1, w2, w3, w4, w5, w6, w7, w8, w9, w10, w11, w12, w13, w14, w15] → Post (some (ab_I r11)) [v12, w1, w2, w3, w4, w5, w6, w7, w8, w9, w10, w11, w12, w13, w14, w15]))))))) :
    ab_J x 0 [some (ab_O 0), some (ab_I a1)] [] [w0, w1, w2, w3, w4, w5, w6, w7, w8, w9, w10, w11, w12, w13, w14, w15] kc ks := ab_go hx kX8_piece.2 25 [(54, [true, false])] 0 h
set_option maxRecDepth 100000 in
set_option maxHeartbeats 100000000 in
theorem vX8_piece_60 {x : ab_Cx} {d mc ms : Nat} {Post : Option ab_V → List ab_Ob → Prop} (hx : ab_At x mX8_piece d mc ms Post) (w0 w1 w2 w3 w4 w5 w6 w7 w8 w9 w10 w11 w12 w13 w14 w15 : ab_Ob) (kc ks : Nat)
    (h : (((0 : Int) = 0 ∨ (0 : Int) = 1) ∧ (∃ Q1 : Option ab_V → List ab_Ob → Prop, ab_Ct d 0 0 mX8_renew [ab_O 0] [(ab_pf w0 12 0), w1, w2, w3, (ab_pf w4 0 0), w5, w6, w7, w8, w9, w10, w11, w12, w13, w14, w15] Q1 ∧ (∀ v2 : ab_Ob, ∀ v3 : ab_Ob, Q1 none [v2, w1, w2, w3, (ab_pf w4 0 0), w5, w6, w7, v3, w9, w10, w11, w12, w13, w14, w15] → (∃ Q4 : Option ab_V → List ab_Ob → Prop, ab_Ct d 0 0 mX8_grant [ab_O 0, ab_I (w3.1 3)] [v2, w1, w2, w3, (ab_pf w4 0 0), w5, w6, w7, v3, w9, w10, w11, w12, w13, w14, w15] Q4 ∧ (∀ r5 : Int, ∀ v6 : ab_Ob, Q4 (some (ab_I r5)) [v6, w1, w2, w3, (ab_pf w4 0 0), w5, w6, w7, v3, w9, w10, w11, w12, w13, w14, w15] → Post (some (ab_I r5)) [v6, w1, w2, w3, (ab_pf w4 0 0), w5, w6, w7, v3, w9, w10, w11, w12, w13, w14, w15])))))) :
    ab_J x 60 [some (ab_O 0), none] [] [w0, w1, w2, w3, w4, w5, w6, w7, w8, w9, w10, w11, w12, w13, w14, w15] kc ks := ab_go hx kX8_piece.2 19 [(54, [true, false])] 60 h
def mX8_bare : ab_M := ((yX8_bare, cX8_bare, 4, (some .int)), ([8, 4, 5, 5, 0, 1, 2, 7, 6, 1, 7, 7, 7, 7, 3, 3], [(0, 0), (0, 1), (0, 2), (0, 3), (0, 4), (0, 5), (0, 6), (0, 7), (0, 8), (0, 9), (0, 10), (0, 11), (0, 12), (0, 13), (0, 14), (0, 15)], [true, true, true, true, true, true, true, true, true, true, true, true, true, true, true, true], true, true, 0), (false, 8, 1))
def rX8_bare : List ab_R := [(0, .iconst 0, 1, 0, 0, 0, [], none),
  (1, .istore_n 2, 1, 0, 0, 0, [], none),
  (2, .iconst 0, 1, 0, 0, 0, [], none),
  (3, .istore_n 3, 1, 0, 0, 0, [], none),
  (4, .iload_n 3, 1, 0, 0, 0, [], none),
  (5, .aload_n 0, 1, 0, 0, 0, [], none),
  (6, .getfield 23, 3, 8, 2, 0, [], none),
  (9, .getfield 121, 3, 5, 3, 0, [], none),
  (12, .if_icmp .ge 30, 3, 0, 0, 0, [42], none),
  (15, .aload_n 0, 1, 0, 0, 0, [], none),
  (16, .invokevirtual 171, 3, 0, 0, 0, [], some mX8_freshTree),
  (19, .iload_n 3, 1, 0, 0, 0, [], none),
  (20, .invokevirtual 297, 3, 0, 0, 0, [], some mX7_notesUnder),
  (23, .ifCond .ne 13, 3, 0, 0, 0, [36], none),
  (26, .iload_n 2, 1, 0, 0, 0, [], none),
  (27, .iload_n 1, 1, 0, 0, 0, [], none),
  (28, .if_icmp .ne 5, 3, 0, 0, 0, [33], none),
  (31, .iload_n 3, 1, 0, 0, 0, [], none),
  (32, .ireturn, 1, 0, 0, 0, [], none),
  (33, .iinc 2 1, 3, 0, 0, 0, [], none),
  (36, .iinc 3 1, 3, 0, 0, 0, [], none),
  (39, .goto (-35), 3, 0, 0, 0, [4], none)]
set_option maxRecDepth 100000 in
theorem kX8_bare : ab_def_ok mX8_bare rX8_bare := ⟨ab_mok_of 1124 99 1122 1123 (by decide +kernel), [0, 0, 0, 0, 0, 0, 391, 148, 0, 0, 646, 0, 937, 0, 0, 0, 0, 0, 0, 0, 0, 0], by decide +kernel⟩
set_option maxRecDepth 100000 in
set_option maxHeartbeats 100000000 in
theorem vX8_bare_0 {x : ab_Cx} {d mc ms : Nat} {Post : Option ab_V → List ab_Ob → Prop} (hx : ab_At x mX8_bare d mc ms Post) (a1 : Int) (w0 w1 w2 w3 w4 w5 w6 w7 w8 w9 w10 w11 w12 w13 w14 w15 : ab_Ob) (kc ks : Nat)
    (h : ab_J x 4 [some (ab_O 0), some (ab_I a1), some (ab_I 0), some (ab_I 0)] [] [w0, w1, w2, w3, w4, w5, w6, w7, w8, w9, w10, w11, w12, w13, w14, w15] kc ks) :
    ab_J x 0 [some (ab_O 0), some (ab_I a1), none, none] [] [w0, w1, w2, w3, w4, w5, w6, w7, w8, w9, w10, w11, w12, w13, w14, w15] kc ks := ab_go hx kX8_bare.2 9 [(4, [true, true, true, true]), (12, [true, true, true, true]), (15, [true, true, true, true])] 0 h
set_option maxRecDepth 100000 in
set_option maxHeartbeats 100000000 in
theorem vX8_bare_4 {x : ab_Cx} {d mc ms : Nat} {Post : Option ab_V → List ab_Ob → Prop} (hx : ab_At x mX8_bare d mc ms Post) (a1 l2 l3 : Int) (w0 w1 w2 w3 w4 w5 w6 w7 w8 w9 w10 w11 w12 w13 w14 w15 : ab_Ob) (kc ks : Nat)
    (h : ab_J x 12 [some (ab_O 0), some (ab_I a1), some (ab_I l2), some (ab_I l3)] [ab_I (w3.1 3), ab_I l3] [w0, w1, w2, w3, w4, w5, w6, w7, w8, w9, w10, w11, w12, w13, w14, w15] kc ks) :
    ab_J x 4 [some (ab_O 0), some (ab_I a1), some (ab_I l2), some (ab_I l3)] [] [w0, w1, w2, w3, w4, w5, w6, w7, w8, w9, w10, w11, w12, w13, w14, w15] kc ks := ab_go hx kX8_bare.2 9 [(4, [true, true, true, true]), (12, [true, true, true, true]), (15, [true, true, true, true])] 4 h
set_option maxRecDepth 100000 in
set_option maxHeartbeats 100000000 in
theorem vX8_bare_15 {x : ab_Cx} {d mc ms : Nat} {Post : Option ab_V → List ab_Ob → Prop} (hx : ab_At x mX8_bare d mc ms Post) (a1 l2 l3 : Int) (w0 w1 w2 w3 w4 w5 w6 w7 w8 w9 w10 w11 w12 w13 w14 w15 : ab_Ob) (kc ks : Nat)
    (h : (∃ mc1 ms2 : Nat, (kc + mc1 ≤ mc ∧ ks + ms2 ≤ ms) ∧ ∃ Q3 : Option ab_V → List ab_Ob → Prop, ab_Ct d mc1 ms2 mX8_freshTree [ab_O 0] [w0, w1, w2, w3, w4, w5, w6, w7, w8, w9, w10, w11, w12, w13, w14, w15] Q3 ∧ (∀ v4 : ab_Ob, ∀ v5 : ab_Ob, ∀ v6 : ab_Ob, Q3 (some (ab_O 7)) [v4, w1, w2, w3, w4, v5, w6, v6, w8, w9, w10, w11, w12, w13, w14, w15] → (∃ Q7 : Option ab_V → List ab_Ob → Prop, ab_Ct d 0 0 mX7_notesUnder [ab_O 0, ab_I l3] [v6] Q7 ∧ (∀ r8 : Int, Q7 (some (ab_I r8)) [v6] → ((¬ r8 = 0 → ((-2147483648 ≤ l3 + 1 ∧ l3 + 1 ≤ 2147483647) ∧ ab_J x 4 [some (ab_O 0), some (ab_I a1), some (ab_I l2), some (ab_I (l3 + 1))] [] [v4, w1, w2, w3, w4, v5, w6, v6, w8, w9, w10, w11, w12, w13, w14, w15] (kc + mc1) (ks + ms2))) ∧ (r8 = 0 → ((¬ l2 = a1 → ((-2147483648 ≤ l2 + 1 ∧ l2 + 1 ≤ 2147483647) ∧ ((-2147483648 ≤ l3 + 1 ∧ l3 + 1 ≤ 2147483647) ∧ ab_J x 4 [some (ab_O 0), some (ab_I a1), some (ab_I (l2 + 1)), some (ab_I (l3 + 1))] [] [v4, w1, w2, w3, w4, v5, w6, v6, w8, w9, w10, w11, w12, w13, w14, w15] (kc + mc1) (ks + ms2)))) ∧ (l2 = a1 → Post (some (ab_I l3)) [v4, w1, w2, w3, w4, v5, w6, v6, w8, w9, w10, w11, w12, w13, w14, w15]))))))))) :
    ab_J x 15 [some (ab_O 0), some (ab_I a1), some (ab_I l2), some (ab_I l3)] [] [w0, w1, w2, w3, w4, w5, w6, w7, w8, w9, w10, w11, w12, w13, w14, w15] kc ks := ab_go hx kX8_bare.2 16 [(4, [true, true, true, true]), (12, [true, true, true, true]), (15, [true, true, true, true])] 15 h
