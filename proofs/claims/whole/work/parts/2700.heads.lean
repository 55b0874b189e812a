def mX8_feed : ab_M := ((yX8_feed, cX8_feed, 6, (some .int)), ([8, 4, 5, 5, 0, 1, 2, 7, 6, 1, 7, 7, 7, 7, 3, 3], [(0, 0), (0, 1), (0, 2), (0, 3), (0, 4), (0, 5), (0, 6), (0, 7), (0, 8), (0, 9), (0, 10), (0, 11), (0, 12), (0, 13), (0, 14), (0, 15)], [false, true, false, false, false, false, false, false, false, false, false, false, false, false, false, false], false, false, 0), (false, 8, 5))
def rX8_feed : List ab_R := [(0, .aload_n 0, 1, 0, 0, 0, [], none),
  (1, .getfield 16, 3, 8, 1, 0, [], none),
  (4, .getfield 94, 3, 4, 0, 0, [], none),
  (7, .sipush 680, 3, 0, 0, 0, [], none),
  (10, .if_icmp .le 5, 3, 0, 0, 0, [15], none),
  (13, .iconst (-1), 1, 0, 0, 0, [], none),
  (14, .ireturn, 1, 0, 0, 0, [], none),
  (15, .aload_n 0, 1, 0, 0, 0, [], none),
  (16, .getfield 16, 3, 8, 1, 0, [], none),
  (19, .iload_n 1, 1, 0, 0, 0, [], none),
  (20, .invokevirtual 97, 3, 0, 0, 0, [], some mX4_take),
  (23, .aload_n 0, 1, 0, 0, 0, [], none),
  (24, .getfield 16, 3, 8, 1, 0, [], none),
  (27, .iload_n 2, 1, 0, 0, 0, [], none),
  (28, .invokevirtual 97, 3, 0, 0, 0, [], some mX4_take),
  (31, .aload_n 0, 1, 0, 0, 0, [], none),
  (32, .getfield 16, 3, 8, 1, 0, [], none),
  (35, .iload_n 3, 1, 0, 0, 0, [], none),
  (36, .invokevirtual 97, 3, 0, 0, 0, [], some mX4_take),
  (39, .aload_n 0, 1, 0, 0, 0, [], none),
  (40, .getfield 16, 3, 8, 1, 0, [], none),
  (43, .iload 4, 2, 0, 0, 0, [], none),
  (45, .invokevirtual 97, 3, 0, 0, 0, [], some mX4_take),
  (48, .aload_n 0, 1, 0, 0, 0, [], none),
  (49, .getfield 16, 3, 8, 1, 0, [], none),
  (52, .iload 5, 2, 0, 0, 0, [], none),
  (54, .invokevirtual 97, 3, 0, 0, 0, [], some mX4_take),
  (57, .aload_n 0, 1, 0, 0, 0, [], none),
  (58, .getfield 16, 3, 8, 1, 0, [], none),
  (61, .getfield 94, 3, 4, 0, 0, [], none),
  (64, .ireturn, 1, 0, 0, 0, [], none)]
set_option maxRecDepth 100000 in
theorem kX8_feed : ab_def_ok mX8_feed rX8_feed := ⟨ab_mok_of 444 99 442 443 (by decide +kernel), [0, 390, 192, 0, 0, 0, 0, 0, 390, 0, 445, 0, 390, 0, 445, 0, 390, 0, 445, 0, 390, 0, 445, 0, 390, 0, 445, 0, 390, 192, 0], by decide +kernel⟩
set_option maxRecDepth 100000 in
set_option maxHeartbeats 100000000 in
theorem vX8_feed_0 {x : ab_Cx} {d mc ms : Nat} {Post : Option ab_V → List ab_Ob → Prop} (hx : ab_At x mX8_feed d mc ms Post) (a1 a2 a3 a4 a5 : Int) (w0 w1 w2 w3 w4 w5 w6 w7 w8 w9 w10 w11 w12 w13 w14 w15 : ab_Ob) (kc ks : Nat)
    (h : (((w1.1 0) ≤ 680 → (∃ Q1 : Option ab_V → List ab_Ob → Prop, ab_Ct d 0 0 mX4_take [ab_O 0, ab_I a1] [w1, w2] Q1 ∧ (∀ v2 : ab_Ob, Q1 none [v2, w2] → (∃ Q3 : Option ab_V → List ab_Ob → Prop, ab_Ct d 0 0 mX4_take [ab_O 0, ab_I a2] [v2, w2] Q3 ∧ (∀ v4 : ab_Ob, Q3 none [v4, w2] → (∃ Q5 : Option ab_V → List ab_Ob → Prop, ab_Ct d 0 0 mX4_take [ab_O 0, ab_I a3] [v4, w2] Q5 ∧ (∀ v6 : ab_Ob, Q5 none [v6, w2] → (∃ Q7 : Option ab_V → List ab_Ob → Prop, ab_Ct d 0 0 mX4_take [ab_O 0, ab_I a4] [v6, w2] Q7 ∧ (∀ v8 : ab_Ob, Q7 none [v8, w2] → (∃ Q9 : Option ab_V → List ab_Ob → Prop, ab_Ct d 0 0 mX4_take [ab_O 0, ab_I a5] [v8, w2] Q9 ∧ (∀ v10 : ab_Ob, Q9 none [v10, w2] → Post (some (ab_I (v10.1 0))) [w0, v10, w2, w3, w4, w5, w6, w7, w8, w9, w10, w11, w12, w13, w14, w15]))))))))))) ∧ (¬ (w1.1 0) ≤ 680 → Post (some (ab_I (-1))) [w0, w1, w2, w3, w4, w5, w6, w7, w8, w9, w10, w11, w12, w13, w14, w15]))) :
    ab_J x 0 [some (ab_O 0), some (ab_I a1), some (ab_I a2), some (ab_I a3), some (ab_I a4), some (ab_I a5)] [] [w0, w1, w2, w3, w4, w5, w6, w7, w8, w9, w10, w11, w12, w13, w14, w15] kc ks := ab_go hx kX8_feed.2 33 [] 0 h
def mX8_refuse : ab_M := ((yX8_refuse, cX8_refuse, 2, (some .int)), ([8, 4, 5, 5, 0, 1, 2, 7, 6, 1, 7, 7, 7, 7, 3, 3], [(0, 0), (0, 1), (0, 2), (0, 3), (0, 4), (0, 5), (0, 6), (0, 7), (0, 8), (0, 9), (0, 10), (0, 11), (0, 12), (0, 13), (0, 14), (0, 15)], [true, false, false, false, false, false, false, false, false, false, false, false, false, false, false, false], false, false, 0), (false, 8, 1))
def rX8_refuse : List ab_R := [(0, .aload_n 0, 1, 0, 0, 0, [], none),
  (1, .iload_n 1, 1, 0, 0, 0, [], none),
  (2, .putfield 9, 3, 8, 0, 0, [], none),
  (5, .iconst (-1), 1, 0, 0, 0, [], none),
  (6, .ireturn, 1, 0, 0, 0, [], none)]
set_option maxRecDepth 100000 in
theorem kX8_refuse : ab_def_ok mX8_refuse rX8_refuse := ⟨ab_mok_of 456 99 455 0 (by decide +kernel), [0, 0, 389, 0, 0], by decide +kernel⟩
set_option maxRecDepth 100000 in
set_option maxHeartbeats 100000000 in
theorem vX8_refuse_0 {x : ab_Cx} {d mc ms : Nat} {Post : Option ab_V → List ab_Ob → Prop} (hx : ab_At x mX8_refuse d mc ms Post) (a1 : Int) (w0 w1 w2 w3 w4 w5 w6 w7 w8 w9 w10 w11 w12 w13 w14 w15 : ab_Ob) (kc ks : Nat)
    (h : Post (some (ab_I (-1))) [(ab_pf w0 0 a1), w1, w2, w3, w4, w5, w6, w7, w8, w9, w10, w11, w12, w13, w14, w15]) :
    ab_J x 0 [some (ab_O 0), some (ab_I a1)] [] [w0, w1, w2, w3, w4, w5, w6, w7, w8, w9, w10, w11, w12, w13, w14, w15] kc ks := ab_go hx kX8_refuse.2 9 [] 0 h
def mX8_renew : ab_M := ((yX8_renew, cX8_renew, 1, none), ([8, 4, 5, 5, 0, 1, 2, 7, 6, 1, 7, 7, 7, 7, 3, 3], [(0, 0), (0, 1), (0, 2), (0, 3), (0, 4), (0, 5), (0, 6), (0, 7), (0, 8), (0, 9), (0, 10), (0, 11), (0, 12), (0, 13), (0, 14), (0, 15)], [true, false, false, false, false, false, false, false, true, false, false, false, false, false, false, false], false, false, 0), (false, 8, 0))
def rX8_renew : List ab_R := [(0, .aload_n 0, 1, 0, 0, 0, [], none),
  (1, .iconst 0, 1, 0, 0, 0, [], none),
  (2, .putfield 41, 3, 8, 5, 0, [], none),
  (5, .aload_n 0, 1, 0, 0, 0, [], none),
  (6, .iconst 0, 1, 0, 0, 0, [], none),
  (7, .putfield 52, 3, 8, 7, 0, [], none),
  (10, .aload_n 0, 1, 0, 0, 0, [], none),
  (11, .iconst 0, 1, 0, 0, 0, [], none),
  (12, .putfield 62, 3, 8, 9, 0, [], none),
  (15, .aload_n 0, 1, 0, 0, 0, [], none),
  (16, .getfield 68, 3, 8, 10, 0, [], none),
  (19, .invokevirtual 376, 3, 0, 0, 0, [], some mX6_forget),
  (22, .return_, 1, 0, 0, 0, [], none)]
set_option maxRecDepth 100000 in
theorem kX8_renew : ab_def_ok mX8_renew rX8_renew := ⟨ab_mok_of 605 99 604 15 (by decide +kernel), [0, 0, 394, 0, 0, 396, 0, 0, 398, 0, 399, 606, 0], by decide +kernel⟩
set_option maxRecDepth 100000 in
set_option maxHeartbeats 100000000 in
theorem vX8_renew_0 {x : ab_Cx} {d mc ms : Nat} {Post : Option ab_V → List ab_Ob → Prop} (hx : ab_At x mX8_renew d mc ms Post) (w0 w1 w2 w3 w4 w5 w6 w7 w8 w9 w10 w11 w12 w13 w14 w15 : ab_Ob) (kc ks : Nat)
    (h : (((0 : Int) = 0 ∨ (0 : Int) = 1) ∧ (((0 : Int) = 0 ∨ (0 : Int) = 1) ∧ (((0 : Int) = 0 ∨ (0 : Int) = 1) ∧ (∃ Q1 : Option ab_V → List ab_Ob → Prop, ab_Ct d 0 0 mX6_forget [ab_O 0] [w8, w9, w10] Q1 ∧ (∀ v2 : ab_Ob, Q1 none [v2, w9, w10] → Post none [(ab_pf (ab_pf (ab_pf w0 5 0) 7 0) 9 0), w1, w2, w3, w4, w5, w6, w7, v2, w9, w10, w11, w12, w13, w14, w15])))))) :
    ab_J x 0 [some (ab_O 0)] [] [w0, w1, w2, w3, w4, w5, w6, w7, w8, w9, w10, w11, w12, w13, w14, w15] kc ks := ab_go hx kX8_renew.2 17 [] 0 h
def mX8_grant : ab_M := ((yX8_grant, cX8_grant, 2, (some .int)), ([8, 4, 5, 5, 0, 1, 2, 7, 6, 1, 7, 7, 7, 7, 3, 3], [(0, 0), (0, 1), (0, 2), (0, 3), (0, 4), (0, 5), (0, 6), (0, 7), (0, 8), (0, 9), (0, 10), (0, 11), (0, 12), (0, 13), (0, 14), (0, 15)], [true, false, false, false, false, false, false, false, false, false, false, false, false, false, false, false], false, false, 0), (false, 8, 1))
def rX8_grant : List ab_R := [(0, .aload_n 0, 1, 0, 0, 0, [], none),
  (1, .iconst 0, 1, 0, 0, 0, [], none),
  (2, .putfield 9, 3, 8, 0, 0, [], none),
  (5, .iload_n 1, 1, 0, 0, 0, [], none),
  (6, .ireturn, 1, 0, 0, 0, [], none)]
set_option maxRecDepth 100000 in
theorem kX8_grant : ab_def_ok mX8_grant rX8_grant := ⟨ab_mok_of 613 99 612 16 (by decide +kernel), [0, 0, 389, 0, 0], by decide +kernel⟩
set_option maxRecDepth 100000 in
set_option maxHeartbeats 100000000 in
theorem vX8_grant_0 {x : ab_Cx} {d mc ms : Nat} {Post : Option ab_V → List ab_Ob → Prop} (hx : ab_At x mX8_grant d mc ms Post) (a1 : Int) (w0 w1 w2 w3 w4 w5 w6 w7 w8 w9 w10 w11 w12 w13 w14 w15 : ab_Ob) (kc ks : Nat)
    (h : Post (some (ab_I a1)) [(ab_pf w0 0 0), w1, w2, w3, w4, w5, w6, w7, w8, w9, w10, w11, w12, w13, w14, w15]) :
    ab_J x 0 [some (ab_O 0), some (ab_I a1)] [] [w0, w1, w2, w3, w4, w5, w6, w7, w8, w9, w10, w11, w12, w13, w14, w15] kc ks := ab_go hx kX8_grant.2 9 [] 0 h
def mX8_fault : ab_M := ((yX8_fault, cX8_fault, 1, (some .int)), ([8, 4, 5, 5, 0, 1, 2, 7, 6, 1, 7, 7, 7, 7, 3, 3], [(0, 0), (0, 1), (0, 2), (0, 3), (0, 4), (0, 5), (0, 6), (0, 7), (0, 8), (0, 9), (0, 10), (0, 11), (0, 12), (0, 13), (0, 14), (0, 15)], [false, false, false, false, false, false, false, false, false, false, false, false, false, false, false, false], false, false, 0), (false, 8, 0))
def rX8_fault : List ab_R := [(0, .aload_n 0, 1, 0, 0, 0, [], none),
  (1, .getfield 16, 3, 8, 1, 0, [], none),
  (4, .getfield 108, 3, 4, 10, 0, [], none),
  (7, .ireturn, 1, 0, 0, 0, [], none)]
set_option maxRecDepth 100000 in
theorem kX8_fault : ab_def_ok mX8_fault rX8_fault := ⟨ab_mok_of 617 99 615 616 (by decide +kernel), [0, 390, 204, 0], by decide +kernel⟩
set_option maxRecDepth 100000 in
set_option maxHeartbeats 100000000 in
theorem vX8_fault_0 {x : ab_Cx} {d mc ms : Nat} {Post : Option ab_V → List ab_Ob → Prop} (hx : ab_At x mX8_fault d mc ms Post) (w0 w1 w2 w3 w4 w5 w6 w7 w8 w9 w10 w11 w12 w13 w14 w15 : ab_Ob) (kc ks : Nat)
    (h : Post (some (ab_I (w1.1 10))) [w0, w1, w2, w3, w4, w5, w6, w7, w8, w9, w10, w11, w12, w13, w14, w15]) :
    ab_J x 0 [some (ab_O 0)] [] [w0, w1, w2, w3, w4, w5, w6, w7, w8, w9, w10, w11, w12, w13, w14, w15] kc ks := ab_go hx kX8_fault.2 8 [] 0 h
def mX8_where : ab_M := ((yX8_where, cX8_where, 1, (some .int)), ([8, 4, 5, 5, 0, 1, 2, 7, 6, 1, 7, 7, 7, 7, 3, 3], [(0, 0), (0, 1), (0, 2), (0, 3), (0, 4), (0, 5), (0, 6), (0, 7), (0, 8), (0, 9), (0, 10), (0, 11), (0, 12), (0, 13), (0, 14), (0, 15)], [false, false, false, false, false, false, false, false, false, false, false, false, false, false, false, false], false, false, 0), (false, 8, 0))
def rX8_where : List ab_R := [(0, .aload_n 0, 1, 0, 0, 0, [], none),
  (1, .getfield 9, 3, 8, 0, 0, [], none),
  (4, .iconst 4, 1, 0, 0, 0, [], none),
  (5, .if_icmp .ne 13, 3, 0, 0, 0, [18], none),
  (8, .aload_n 0, 1, 0, 0, 0, [], none),
  (9, .getfield 16, 3, 8, 1, 0, [], none),
  (12, .getfield 127, 3, 4, 7, 0, [], none),
  (15, .goto 4, 3, 0, 0, 0, [19], none),
  (18, .iconst (-1), 1, 0, 0, 0, [], none),
  (19, .ireturn, 1, 0, 0, 0, [], none)]
set_option maxRecDepth 100000 in
theorem kX8_where : ab_def_ok mX8_where rX8_where := ⟨ab_mok_of 621 99 619 620 (by decide +kernel), [0, 389, 0, 0, 0, 390, 200, 0, 0, 0], by decide +kernel⟩
set_option maxRecDepth 100000 in
set_option maxHeartbeats 100000000 in
theorem vX8_where_0 {x : ab_Cx} {d mc ms : Nat} {Post : Option ab_V → List ab_Ob → Prop} (hx : ab_At x mX8_where d mc ms Post) (w0 w1 w2 w3 w4 w5 w6 w7 w8 w9 w10 w11 w12 w13 w14 w15 : ab_Ob) (kc ks : Nat)
    (h : ((¬ (w0.1 0) = 4 → Post (some (ab_I (-1))) [w0, w1, w2, w3, w4, w5, w6, w7, w8, w9, w10, w11, w12, w13, w14, w15]) ∧ ((w0.1 0) = 4 → Post (some (ab_I (w1.1 7))) [w0, w1, w2, w3, w4, w5, w6, w7, w8, w9, w10, w11, w12, w13, w14, w15]))) :
    ab_J x 0 [some (ab_O 0)] [] [w0, w1, w2, w3, w4, w5, w6, w7, w8, w9, w10, w11, w12, w13, w14, w15] kc ks := ab_go hx kX8_where.2 13 [] 0 h
def mX8_hasPiece : ab_M := ((yX8_hasPiece, cX8_hasPiece, 1, (some .boolean)), ([8, 4, 5, 5, 0, 1, 2, 7, 6, 1, 7, 7, 7, 7, 3, 3], [(0, 0), (0, 1), (0, 2), (0, 3), (0, 4), (0, 5), (0, 6), (0, 7), (0, 8), (0, 9), (0, 10), (0, 11), (0, 12), (0, 13), (0, 14), (0, 15)], [false, false, false, false, false, false, false, false, false, false, false, false, false, false, false, false], false, false, 0), (false, 8, 0))
def rX8_hasPiece : List ab_R := [(0, .aload_n 0, 1, 0, 0, 0, [], none),
  (1, .getfield 23, 3, 8, 2, 0, [], none),
  (4, .getfield 121, 3, 5, 3, 0, [], none),
  (7, .ifCond .le 7, 3, 0, 0, 0, [14], none),
  (10, .iconst 1, 1, 0, 0, 0, [], none),
  (11, .goto 4, 3, 0, 0, 0, [15], none),
  (14, .iconst 0, 1, 0, 0, 0, [], none),
  (15, .ireturn, 1, 0, 0, 0, [], none)]
set_option maxRecDepth 100000 in
theorem kX8_hasPiece : ab_def_ok mX8_hasPiece rX8_hasPiece := ⟨ab_mok_of 629 99 628 17 (by decide +kernel), [0, 391, 148, 0, 0, 0, 0, 0], by decide +kernel⟩
set_option maxRecDepth 100000 in
set_option maxHeartbeats 100000000 in
theorem vX8_hasPiece_0 {x : ab_Cx} {d mc ms : Nat} {Post : Option ab_V → List ab_Ob → Prop} (hx : ab_At x mX8_hasPiece d mc ms Post) (w0 w1 w2 w3 w4 w5 w6 w7 w8 w9 w10 w11 w12 w13 w14 w15 : ab_Ob) (kc ks : Nat)
    (h : (((w3.1 3) ≤ 0 → (((0 : Int) = 0 ∨ (0 : Int) = 1) ∧ Post (some (ab_I 0)) [w0, w1, w2, w3, w4, w5, w6, w7, w8, w9, w10, w11, w12, w13, w14, w15])) ∧ (¬ (w3.1 3) ≤ 0 → (((1 : Int) = 0 ∨ (1 : Int) = 1) ∧ Post (some (ab_I 1)) [w0, w1, w2, w3, w4, w5, w6, w7, w8, w9, w10, w11, w12, w13, w14, w15])))) :
    ab_J x 0 [some (ab_O 0)] [] [w0, w1, w2, w3, w4, w5, w6, w7, w8, w9, w10, w11, w12, w13, w14, w15] kc ks := ab_go hx kX8_hasPiece.2 11 [] 0 h
def mX8_about : ab_M := ((yX8_about, cX8_about, 2, (some .int)), ([8, 4, 5, 5, 0, 1, 2, 7, 6, 1, 7, 7, 7, 7, 3, 3], [(0, 0), (0, 1), (0, 2), (0, 3), (0, 4), (0, 5), (0, 6), (0, 7), (0, 8), (0, 9), (0, 10), (0, 11), (0, 12), (0, 13), (0, 14), (0, 15)], [true, false, false, false, false, false, false, false, false, false, false, false, false, false, false, false], false, false, 0), (false, 8, 1))
def rX8_about : List ab_R := [(0, .aload_n 0, 1, 0, 0, 0, [], none),
  (1, .invokevirtual 130, 3, 0, 0, 0, [], some mX8_hasPiece),
  (4, .ifCond .ne 9, 3, 0, 0, 0, [13], none),
  (7, .aload_n 0, 1, 0, 0, 0, [], none),
  (8, .iconst 1, 1, 0, 0, 0, [], none),
  (9, .invokevirtual 101, 3, 0, 0, 0, [], some mX8_refuse),
  (12, .ireturn, 1, 0, 0, 0, [], none),
  (13, .iload_n 1, 1, 0, 0, 0, [], none),
  (14, .tableswitch 120 0 5 #[38, 50, 62, 74, 86, 108], 38, 0, 0, 0, [134, 52, 64, 76, 88, 100, 122], none),
  (52, .aload_n 0, 1, 0, 0, 0, [], none),
  (53, .aload_n 0, 1, 0, 0, 0, [], none),
  (54, .getfield 23, 3, 8, 2, 0, [], none),
  (57, .getfield 134, 3, 5, 0, 0, [], none),
  (60, .invokevirtual 124, 3, 0, 0, 0, [], some mX8_grant),
  (63, .ireturn, 1, 0, 0, 0, [], none),
  (64, .aload_n 0, 1, 0, 0, 0, [], none),
  (65, .aload_n 0, 1, 0, 0, 0, [], none),
  (66, .getfield 23, 3, 8, 2, 0, [], none),
  (69, .getfield 137, 3, 5, 1, 0, [], none),
  (72, .invokevirtual 124, 3, 0, 0, 0, [], some mX8_grant),
  (75, .ireturn, 1, 0, 0, 0, [], none),
  (76, .aload_n 0, 1, 0, 0, 0, [], none),
  (77, .aload_n 0, 1, 0, 0, 0, [], none),
  (78, .getfield 23, 3, 8, 2, 0, [], none),
  (81, .getfield 140, 3, 5, 2, 0, [], none),
  (84, .invokevirtual 124, 3, 0, 0, 0, [], some mX8_grant),
  (87, .ireturn, 1, 0, 0, 0, [], none),
  (88, .aload_n 0, 1, 0, 0, 0, [], none),
  (89, .aload_n 0, 1, 0, 0, 0, [], none),
  (90, .getfield 23, 3, 8, 2, 0, [], none),
  (93, .getfield 121, 3, 5, 3, 0, [], none),
  (96, .invokevirtual 124, 3, 0, 0, 0, [], some mX8_grant),
  (99, .ireturn, 1, 0, 0, 0, [], none),
  (100, .aload_n 0, 1, 0, 0, 0, [], none),
  (101, .aload_n 0, 1, 0, 0, 0, [], none),
  (102, .getfield 23, 3, 8, 2, 0, [], none),
  (105, .iconst 0, 1, 0, 0, 0, [], none),
  (106, .aload_n 0, 1, 0, 0, 0, [], none),
  (107, .getfield 23, 3, 8, 2, 0, [], none),
  (110, .getfield 121, 3, 5, 3, 0, [], none),
  (113, .iconst 1, 1, 0, 0, 0, [], none),
  (114, .isub, 1, 0, 0, 0, [], none),
  (115, .invokevirtual 143, 3, 0, 0, 0, [], some mX5_lasting),
  (118, .invokevirtual 124, 3, 0, 0, 0, [], some mX8_grant),
  (121, .ireturn, 1, 0, 0, 0, [], none),
  (122, .aload_n 0, 1, 0, 0, 0, [], none),
  (123, .aload_n 0, 1, 0, 0, 0, [], none),
  (124, .getfield 23, 3, 8, 2, 0, [], none),
  (127, .invokevirtual 147, 3, 0, 0, 0, [], some mX5_weighted),
  (130, .invokevirtual 124, 3, 0, 0, 0, [], some mX8_grant),
  (133, .ireturn, 1, 0, 0, 0, [], none),
  (134, .aload_n 0, 1, 0, 0, 0, [], none),
  (135, .iconst 1, 1, 0, 0, 0, [], none),
  (136, .invokevirtual 101, 3, 0, 0, 0, [], some mX8_refuse),
  (139, .ireturn, 1, 0, 0, 0, [], none)]
set_option maxRecDepth 100000 in
theorem kX8_about : ab_def_ok mX8_about rX8_about := ⟨ab_mok_of 625 99 623 624 (by decide +kernel), [0, 626, 0, 0, 0, 453, 0, 0, 0, 0, 0, 391, 139, 610, 0, 0, 0, 391, 142, 610, 0, 0, 0, 391, 145, 610, 0, 0, 0, 391, 148, 610, 0, 0, 0, 391, 0, 0, 391, 148, 0, 0, 630, 610, 0, 0, 0, 391, 634, 610, 0, 0, 0, 453, 0], by decide +kernel⟩
set_option maxRecDepth 100000 in
set_option maxHeartbeats 100000000 in
theorem vX8_about_0 {x : ab_Cx} {d mc ms : Nat} {Post : Option ab_V → List ab_Ob → Prop} (hx : ab_At x mX8_about d mc ms Post) (a1 : Int) (w0 w1 w2 w3 w4 w5 w6 w7 w8 w9 w10 w11 w12 w13 w14 w15 : ab_Ob) (kc ks : Nat)
    (h : (∃ Q1 : Option ab_V → List ab_Ob → Prop, ab_Ct d 0 0 mX8_hasPiece [ab_O 0] [w0, w1, w2, w3, w4, w5, w6, w7, w8, w9, w10, w11, w12, w13, w14, w15] Q1 ∧ (∀ r2 : Int, Q1 (some (ab_I r2)) [w0, w1, w2, w3, w4, w5, w6, w7, w8, w9, w10, w11, w12, w13, w14, w15] → ((¬ r2 = 0 → ((a1 < 0 ∨ 5 < a1 → (∃ Q25 : Option ab_V → List ab_Ob → Prop, ab_Ct d 0 0 mX8_refuse [ab_O 0, ab_I 1] [w0, w1, w2, w3, w4, w5, w6, w7, w8, w9, w10, w11, w12, w13, w14, w15] Q25 ∧ (∀ r26 : Int, ∀ v27 : ab_Ob, Q25 (some (ab_I r26)) [v27, w1, w2, w3, w4, w5, w6, w7, w8, w9, w10, w11, w12, w13, w14, w15] → Post (some (ab_I r26)) [v27, w1, w2, w3, w4, w5, w6, w7, w8, w9, w10, w11, w12, w13, w14, w15]))) ∧ ((a1 = 0 → (∃ Q22 : Option ab_V → List ab_Ob → Prop, ab_Ct d 0 0 mX8_grant [ab_O 0, ab_I (w3.1 0)] [w0, w1, w2, w3, w4, w5, w6, w7, w8, w9, w10, w11, w12, w13, w14, w15] Q22 ∧ (∀ r23 : Int, ∀ v24 : ab_Ob, Q22 (some (ab_I r23)) [v24, w1, w2, w3, w4, w5, w6, w7, w8, w9, w10, w11, w12, w13, w14, w15] → Post (some (ab_I r23)) [v24, w1, w2, w3, w4, w5, w6, w7, w8, w9, w10, w11, w12, w13, w14, w15]))) ∧ ((a1 = 1 → (∃ Q19 : Option ab_V → List ab_Ob → Prop, ab_Ct d 0 0 mX8_grant [ab_O 0, ab_I (w3.1 1)] [w0, w1, w2, w3, w4, w5, w6, w7, w8, w9, w10, w11, w12, w13, w14, w15] Q19 ∧ (∀ r20 : Int, ∀ v21 : ab_Ob, Q19 (some (ab_I r20)) [v21, w1, w2, w3, w4, w5, w6, w7, w8, w9, w10, w11, w12, w13, w14, w15] → Post (some (ab_I r20)) [v21, w1, w2, w3, w4, w5, w6, w7, w8, w9, w10, w11, w12, w13, w14, w15]))) ∧ ((a1 = 2 → (∃ Q16 : Option ab_V → List ab_Ob → Prop, ab_Ct d 0 0 mX8_grant [ab_O 0, ab_I (w3.1 2)] [w0, w1, w2, w3, w4, w5, w6, w7, w8, w9, w10, w11, w12, w13, w14, w15] Q16 ∧ (∀ r17 : Int, ∀ v18 : ab_Ob, Q16 (some (ab_I r17)) [v18, w1, w2, w3, w4, w5, w6, w7, w8, w9, w10, w11, w12, w13, w14, w15] → Post (some (ab_I r17)) [v18, w1, w2, w3, w4, w5, w6, w7, w8, w9, w10, w11, w12, w13, w14, w15]))) ∧ ((a1 = 3 → (∃ Q13 : Option ab_V → List ab_Ob → Prop, ab_Ct d 0 0 mX8_grant [ab_O 0, ab_I (w3.1 3)] [w0, w1, w2, w3, w4, w5, w6, w7, w8, w9, w10, w11, w12, w13, w14, w15] Q13 ∧ (∀ r14 : Int, ∀ v15 : ab_Ob, Q13 (some (ab_I r14)) [v15, w1, w2, w3, w4, w5, w6, w7, w8, w9, w10, w11, w12, w13, w14, w15] → Post (some (ab_I r14)) [v15, w1, w2, w3, w4, w5, w6, w7, w8, w9, w10, w11, w12, w13, w14, w15]))) ∧ ((a1 = 4 → ((-2147483648 ≤ (w3.1 3) - 1 ∧ (w3.1 3) - 1 ≤ 2147483647) ∧ (∃ Q8 : Option ab_V → List ab_Ob → Prop, ab_Ct d 0 0 mX5_lasting [ab_O 0, ab_I 0, ab_I ((w3.1 3) - 1)] [w3] Q8 ∧ (∀ r9 : Int, Q8 (some (ab_I r9)) [w3] → (∃ Q10 : Option ab_V → List ab_Ob → Prop, ab_Ct d 0 0 mX8_grant [ab_O 0, ab_I r9] [w0, w1, w2, w3, w4, w5, w6, w7, w8, w9, w10, w11, w12, w13, w14, w15] Q10 ∧ (∀ r11 : Int, ∀ v12 : ab_Ob, Q10 (some (ab_I r11)) [v12, w1, w2, w3, w4, w5, w6, w7, w8, w9, w10, w11, w12, w13, w14, w15] → Post (some (ab_I r11)) [v12, w1, w2, w3, w4, w5, w6, w7, w8, w9, w10, w11, w12, w13, w14, w15])))))) ∧ ((a1 = 5 → (∃ Q3 : Option ab_V → List ab_Ob → Prop, ab_Ct d 0 0 mX5_weighted [ab_O 0] [w3] Q3 ∧ (∀ r4 : Int, Q3 (some (ab_I r4)) [w3] → (∃ Q5 : Option ab_V → List ab_Ob → Prop, ab_Ct d 0 0 mX8_grant [ab_O 0, ab_I r4] [w0, w1, w2, w3, w4, w5, w6, w7, w8, w9, w10, w11, w12, w13, w14, w15] Q5 ∧ (∀ r6 : Int, ∀ v7 : ab_Ob, Q5 (some (ab_I r6)) [v7, w1, w2, w3, w4, w5, w6, w7, w8, w9, w10, w11, w12, w13, w14, w15] → Post (some (ab_I r6)) [v7, w1, w2, w3, w4, w5, w6, w7, w8, w9, w10, w11, w12, w13, w14, w15]))))) ∧ True)))))))) ∧ (r2 = 0 → (∃ Q28 : Option ab_V → List ab_Ob → Prop, ab_Ct d 0 0 mX8_refuse [ab_O 0, ab_I 1] [w0, w1, w2, w3, w4, w5, w6, w7, w8, w9, w10, w11, w12, w13, w14, w15] Q28 ∧ (∀ r29 : Int, ∀ v30 : ab_Ob, Q28 (some (ab_I r29)) [v30, w1, w2, w3, w4, w5, w6, w7, w8, w9, w10, w11, w12, w13, w14, w15] → Post (some (ab_I r29)) [v30, w1, w2, w3, w4, w5, w6, w7, w8, w9, w10, w11, w12, w13, w14, w15]))))))) :
    ab_J x 0 [some (ab_O 0), some (ab_I a1)] [] [w0, w1, w2, w3, w4, w5, w6, w7, w8, w9, w10, w11, w12, w13, w14, w15] kc ks := ab_go hx kX8_about.2 21 [] 0 h
