def mX8_feed : ab_M := ((yX8_feed, cX8_feed, 6, (some .int)), ([8, 4, 5, 5, 0, 1, 2, 7, 6, 1, 7, 7, 7, 7, 3, 3], [(0, 0), (0, 1), (0, 2), (0, 3), (0, 4), (0, 5), (0, 6), (0, 7), (0, 8), (0, 9), (0, 10), (0, 11), (0, 12), (0, 13), (0, 14), (0, 15)], [false, true, false, false, false, false, false, false, false, false, false, false, false, false, false, false], false, false, 0), (false, 8, 5))
def rX8_feed : List ab_R := [(0, .aload_n 0, 1, 0, 0, 0, [], none),
  (1, .getfield 16, 3, 8, 1, 0, [], none),
  (4, .getfield 94, 3, 4, 0, 0, [], none),
  (7, .sipush 680, 3, 0, 0, 0, [], none),
  (10, .if_icmp .le 5, 3, 0, 0, 0, [15], none),
  (13, .iconst (-1), 1, 0, 0, 0, [], none),
  (14, .ireturn, 1, 0, 0, 0, [], none),
  (15, .aload_n 0, 1, 0, 0, 0, [], none),
  (16, .getfield 16, 3, 8, 1, 0, [], none),
  (19, .iload_n 1, 1, 0, 0, 0, [], none),
  (20, .invokevirtual 97, 3, 0, 0, 0, [], some mX4_take),
  (23, .aload_n 0, 1, 0, 0, 0, [], none),
  (24, .getfield 16, 3, 8, 1, 0, [], none),
  (27, .iload_n 2, 1, 0, 0, 0, [], none),
  (28, .invokevirtual 97, 3, 0, 0, 0, [], some mX4_take),
  (31, .aload_n 0, 1, 0, 0, 0, [], none),
  (32, .getfield 16, 3, 8, 1, 0, [], none),
  (35, .iload_n 3, 1, 0, 0, 0, [], none),
  (36, .invokevirtual 97, 3, 0, 0, 0, [], some mX4_take),
  (39, .aload_n 0, 1, 0, 0, 0, [], none),
  (40, .getfield 16, 3, 8, 1, 0, [], none),
  (43, .iload 4, 2, 0, 0, 0, [], none),
  (45, .invokevirtual 97, 3, 0, 0, 0, [], some mX4_take),
  (48, .aload_n 0, 1, 0, 0, 0, [], none),
  (49, .getfield 16, 3, 8, 1, 0, [], none),
  (52, .iload 5, 2, 0, 0, 0, [], none),
  (54, .invokevirtual 97, 3, 0, 0, 0, [], some mX4_take),
  (57, .aload_n 0, 1, 0, 0, 0, [], none),
  (58, .getfield 16, 3, 8, 1, 0, [], none),
  (61, .getfield 94, 3, 4, 0, 0, [], none),
  (64, .ireturn, 1, 0, 0, 0, [], none)]
set_option maxRecDepth 100000 in
theorem kX8_feed : ab_def_ok mX8_feed rX8_feed := ⟨ab_mok_of 446 101 444 445 (by decide +kernel), [0, 392, 194, 0, 0, 0, 0, 0, 392, 0, 447, 0, 392, 0, 447, 0, 392, 0, 447, 0, 392, 0, 447, 0, 392, 0, 447, 0, 392, 194, 0], by decide +kernel⟩
set_option maxRecDepth 100000 in
theorem vX8_feed_0 {x : ab_Cx} {d mc ms : Nat} {Post : Option ab_V → List ab_Ob → Prop} (hx : ab_At x mX8_feed d mc ms Post) (a1 a2 a3 a4 a5 : Int) (w0 w1 w2 w3 w4 w5 w6 w7 w8 w9 w10 w11 w12 w13 w14 w15 : ab_Ob) (kc ks : Nat)
    (h : (((w1.1 0) ≤ 680 → (∃ Q1 : Option ab_V → List ab_Ob → Prop, ab_Ct d 0 0 mX4_take [ab_O 0, ab_I a1] [w1, w2] Q1 ∧ (∀ v2 : ab_Ob, Q1 none [v2, w2] → (∃ Q3 : Option ab_V → List ab_Ob → Prop, ab_Ct d 0 0 mX4_take [ab_O 0, ab_I a2] [v2, w2] Q3 ∧ (∀ v4 : ab_Ob, Q3 none [v4, w2] → (∃ Q5 : Option ab_V → List ab_Ob → Prop, ab_Ct d 0 0 mX4_take [ab_O 0, ab_I a3] [v4, w2] Q5 ∧ (∀ v6 : ab_Ob, Q5 none [v6, w2] → (∃ Q7 : Option ab_V → List ab_Ob → Prop, ab_Ct d 0 0 mX4_take [ab_O 0, ab_I a4] [v6, w2] Q7 ∧ (∀ v8 : ab_Ob, Q7 none [v8, w2] → (∃ Q9 : Option ab_V → List ab_Ob → Prop, ab_Ct d 0 0 mX4_take [ab_O 0, ab_I a5] [v8, w2] Q9 ∧ (∀ v10 : ab_Ob, Q9 none [v10, w2] → Post (some (ab_I (v10.1 0))) [w0, v10, w2, w3, w4, w5, w6, w7, w8, w9, w10, w11, w12, w13, w14, w15]))))))))))) ∧ (¬ (w1.1 0) ≤ 680 → Post (some (ab_I (-1))) [w0, w1, w2, w3, w4, w5, w6, w7, w8, w9, w10, w11, w12, w13, w14, w15]))) :
    ab_J x 0 [some (ab_O 0), some (ab_I a1), some (ab_I a2), some (ab_I a3), some (ab_I a4), some (ab_I a5)] [] [w0, w1, w2, w3, w4, w5, w6, w7, w8, w9, w10, w11, w12, w13, w14, w15] kc ks := ab_go hx kX8_feed.2 33 [] 0 h
def mX8_refuse : ab_M := ((yX8_refuse, cX8_refuse, 2, (some .int)), ([8, 4, 5, 5, 0, 1, 2, 7, 6, 1, 7, 7, 7, 7, 3, 3], [(0, 0), (0, 1), (0, 2), (0, 3), (0, 4), (0, 5), (0, 6), (0, 7), (0, 8), (0, 9), (0, 10), (0, 11), (0, 12), (0, 13), (0, 14), (0, 15)], [true, false, false, false, false, false, false, false, false, false, false, false, false, false, false, false], false, false, 0), (false, 8, 1))
def rX8_refuse : List ab_R := [(0, .aload_n 0, 1, 0, 0, 0, [], none),
  (1, .iload_n 1, 1, 0, 0, 0, [], none),
  (2, .putfield 9, 3, 8, 0, 0, [], none),
  (5, .iconst (-1), 1, 0, 0, 0, [], none),
  (6, .ireturn, 1, 0, 0, 0, [], none)]
set_option maxRecDepth 100000 in
theorem kX8_refuse : ab_def_ok mX8_refuse rX8_refuse := ⟨ab_mok_of 458 101 457 0 (by decide +kernel), [0, 0, 391, 0, 0], by decide +kernel⟩
set_option maxRecDepth 100000 in
theorem vX8_refuse_0 {x : ab_Cx} {d mc ms : Nat} {Post : Option ab_V → List ab_Ob → Prop} (hx : ab_At x mX8_refuse d mc ms Post) (a1 : Int) (w0 w1 w2 w3 w4 w5 w6 w7 w8 w9 w10 w11 w12 w13 w14 w15 : ab_Ob) (kc ks : Nat)
    (h : Post (some (ab_I (-1))) [(ab_pf w0 0 a1), w1, w2, w3, w4, w5, w6, w7, w8, w9, w10, w11, w12, w13, w14, w15]) :
    ab_J x 0 [some (ab_O 0), some (ab_I a1)] [] [w0, w1, w2, w3, w4, w5, w6, w7, w8, w9, w10, w11, w12, w13, w14, w15] kc ks := ab_go hx kX8_refuse.2 9 [] 0 h
def mX8_renew : ab_M := ((yX8_renew, cX8_renew, 1, none), ([8, 4, 5, 5, 0, 1, 2, 7, 6, 1, 7, 7, 7, 7, 3, 3], [(0, 0), (0, 1), (0, 2), (0, 3), (0, 4), (0, 5), (0, 6), (0, 7), (0, 8), (0, 9), (0, 10), (0, 11), (0, 12), (0, 13), (0, 14), (0, 15)], [true, false, false, false, false, false, false, false, true, false, false, false, false, false, false, false], false, false, 0), (false, 8, 0))
def rX8_renew : List ab_R := [(0, .aload_n 0, 1, 0, 0, 0, [], none),
  (1, .iconst 0, 1, 0, 0, 0, [], none),
  (2, .putfield 41, 3, 8, 5, 0, [], none),
  (5, .aload_n 0, 1, 0, 0, 0, [], none),
  (6, .iconst 0, 1, 0, 0, 0, [], none),
  (7, .putfield 52, 3, 8, 7, 0, [], none),
  (10, .aload_n 0, 1, 0, 0, 0, [], none),
  (11, .iconst 0, 1, 0, 0, 0, [], none),
  (12, .putfield 62, 3, 8, 9, 0, [], none),
  (15, .aload_n 0, 1, 0, 0, 0, [], none),
  (16, .getfield 68, 3, 8, 10, 0, [], none),
  (19, .invokevirtual 376, 3, 0, 0, 0, [], some mX6_forget),
  (22, .return_, 1, 0, 0, 0, [], none)]
set_option maxRecDepth 100000 in
theorem kX8_renew : ab_def_ok mX8_renew rX8_renew := ⟨ab_mok_of 615 101 614 17 (by decide +kernel), [0, 0, 396, 0, 0, 398, 0, 0, 400, 0, 401, 616, 0], by decide +kernel⟩
set_option maxRecDepth 100000 in
theorem vX8_renew_0 {x : ab_Cx} {d mc ms : Nat} {Post : Option ab_V → List ab_Ob → Prop} (hx : ab_At x mX8_renew d mc ms Post) (w0 w1 w2 w3 w4 w5 w6 w7 w8 w9 w10 w11 w12 w13 w14 w15 : ab_Ob) (kc ks : Nat)
    (h : (((0 : Int) = 0 ∨ (0 : Int) = 1) ∧ (((0 : Int) = 0 ∨ (0 : Int) = 1) ∧ (((0 : Int) = 0 ∨ (0 : Int) = 1) ∧ (∃ Q1 : Option ab_V → List ab_Ob → Prop, ab_Ct d 0 0 mX6_forget [ab_O 0] [w8, w9, w10] Q1 ∧ (∀ v2 : ab_Ob, Q1 none [v2, w9, w10] → Post none [(ab_pf (ab_pf (ab_pf w0 5 0) 7 0) 9 0), w1, w2, w3, w4, w5, w6, w7, v2, w9, w10, w11, w12, w13, w14, w15])))))) :
    ab_J x 0 [some (ab_O 0)] [] [w0, w1, w2, w3, w4, w5, w6, w7, w8, w9, w10, w11, w12, w13, w14, w15] kc ks := ab_go hx kX8_renew.2 17 [] 0 h
def mX8_grant : ab_M := ((yX8_grant, cX8_grant, 2, (some .int)), ([8, 4, 5, 5, 0, 1, 2, 7, 6, 1, 7, 7, 7, 7, 3, 3], [(0, 0), (0, 1), (0, 2), (0, 3), (0, 4), (0, 5), (0, 6), (0, 7), (0, 8), (0, 9), (0, 10), (0, 11), (0, 12), (0, 13), (0, 14), (0, 15)], [true, false, false, false, false, false, false, false, false, false, false, false, false, false, false, false], false, false, 0), (false, 8, 1))
def rX8_grant : List ab_R := [(0, .aload_n 0, 1, 0, 0, 0, [], none),
  (1, .iconst 0, 1, 0, 0, 0, [], none),
  (2, .putfield 9, 3, 8, 0, 0, [], none),
  (5, .iload_n 1, 1, 0, 0, 0, [], none),
  (6, .ireturn, 1, 0, 0, 0, [], none)]
set_option maxRecDepth 100000 in
theorem kX8_grant : ab_def_ok mX8_grant rX8_grant := ⟨ab_mok_of 623 101 622 18 (by decide +kernel), [0, 0, 391, 0, 0], by decide +kernel⟩
set_option maxRecDepth 100000 in
theorem vX8_grant_0 {x : ab_Cx} {d mc ms : Nat} {Post : Option ab_V → List ab_Ob → Prop} (hx : ab_At x mX8_grant d mc ms Post) (a1 : Int) (w0 w1 w2 w3 w4 w5 w6 w7 w8 w9 w10 w11 w12 w13 w14 w15 : ab_Ob) (kc ks : Nat)
    (h : Post (some (ab_I a1)) [(ab_pf w0 0 0), w1, w2, w3, w4, w5, w6, w7, w8, w9, w10, w11, w12, w13, w14, w15]) :
    ab_J x 0 [some (ab_O 0), some (ab_I a1)] [] [w0, w1, w2, w3, w4, w5, w6, w7, w8, w9, w10, w11, w12, w13, w14, w15] kc ks := ab_go hx kX8_grant.2 9 [] 0 h
def mX8_fault : ab_M := ((yX8_fault, cX8_fault, 1, (some .int)), ([8, 4, 5, 5, 0, 1, 2, 7, 6, 1, 7, 7, 7, 7, 3, 3], [(0, 0), (0, 1), (0, 2), (0, 3), (0, 4), (0, 5), (0, 6), (0, 7), (0, 8), (0, 9), (0, 10), (0, 11), (0, 12), (0, 13), (0, 14), (0, 15)], [false, false, false, false, false, false, false, false, false, false, false, false, false, false, false, false], false, false, 0), (false, 8, 0))
def rX8_fault : List ab_R := [(0, .aload_n 0, 1, 0, 0, 0, [], none),
  (1, .getfield 16, 3, 8, 1, 0, [], none),
  (4, .getfield 108, 3, 4, 10, 0, [], none),
  (7, .ireturn, 1, 0, 0, 0, [], none)]
set_option maxRecDepth 100000 in
theorem kX8_fault : ab_def_ok mX8_fault rX8_fault := ⟨ab_mok_of 627 101 625 626 (by decide +kernel), [0, 392, 206, 0], by decide +kernel⟩
set_option maxRecDepth 100000 in
theorem vX8_fault_0 {x : ab_Cx} {d mc ms : Nat} {Post : Option ab_V → List ab_Ob → Prop} (hx : ab_At x mX8_fault d mc ms Post) (w0 w1 w2 w3 w4 w5 w6 w7 w8 w9 w10 w11 w12 w13 w14 w15 : ab_Ob) (kc ks : Nat)
    (h : Post (some (ab_I (w1.1 10))) [w0, w1, w2, w3, w4, w5, w6, w7, w8, w9, w10, w11, w12, w13, w14, w15]) :
    ab_J x 0 [some (ab_O 0)] [] [w0, w1, w2, w3, w4, w5, w6, w7, w8, w9, w10, w11, w12, w13, w14, w15] kc ks := ab_go hx kX8_fault.2 8 [] 0 h
def mX8_where : ab_M := ((yX8_where, cX8_where, 1, (some .int)), ([8, 4, 5, 5, 0, 1, 2, 7, 6, 1, 7, 7, 7, 7, 3, 3], [(0, 0), (0, 1), (0, 2), (0, 3), (0, 4), (0, 5), (0, 6), (0, 7), (0, 8), (0, 9), (0, 10), (0, 11), (0, 12), (0, 13), (0, 14), (0, 15)], [false, false, false, false, false, false, false, false, false, false, false, false, false, false, false, false], false, false, 0), (false, 8, 0))
def rX8_where : List ab_R := [(0, .aload_n 0, 1, 0, 0, 0, [], none),
  (1, .getfield 9, 3, 8, 0, 0, [], none),
  (4, .iconst 4, 1, 0, 0, 0, [], none),
  (5, .if_icmp .ne 13, 3, 0, 0, 0, [18], none),
  (8, .aload_n 0, 1, 0, 0, 0, [], none),
  (9, .getfield 16, 3, 8, 1, 0, [], none),
  (12, .getfield 127, 3, 4, 7, 0, [], none),
  (15, .goto 4, 3, 0, 0, 0, [19], none),
  (18, .iconst (-1), 1, 0, 0, 0, [], none),
  (19, .ireturn, 1, 0, 0, 0, [], none)]
set_option maxRecDepth 100000 in
theorem kX8_where : ab_def_ok mX8_where rX8_where := ⟨ab_mok_of 631 101 629 630 (by decide +kernel), [0, 391, 0, 0, 0, 392, 202, 0, 0, 0], by decide +kernel⟩
set_option maxRecDepth 100000 in
theorem vX8_where_0 {x : ab_Cx} {d mc ms : Nat} {Post : Option ab_V → List ab_Ob → Prop} (hx : ab_At x mX8_where d mc ms Post) (w0 w1 w2 w3 w4 w5 w6 w7 w8 w9 w10 w11 w12 w13 w14 w15 : ab_Ob) (kc ks : Nat)
    (h : ((¬ (w0.1 0) = 4 → Post (some (ab_I (-1))) [w0, w1, w2, w3, w4, w5, w6, w7, w8, w9, w10, w11, w12, w13, w14, w15]) ∧ ((w0.1 0) = 4 → Post (some (ab_I (w1.1 7))) [w0, w1, w2, w3, w4, w5, w6, w7, w8, w9, w10, w11, w12, w13, w14, w15]))) :
    ab_J x 0 [some (ab_O 0)] [] [w0, w1, w2, w3, w4, w5, w6, w7, w8, w9, w10, w11, w12, w13, w14, w15] kc ks := ab_go hx kX8_where.2 13 [] 0 h
def mX8_hasPiece : ab_M := ((yX8_hasPiece, cX8_hasPiece, 1, (some .boolean)), ([8, 4, 5, 5, 0, 1, 2, 7, 6, 1, 7, 7, 7, 7, 3, 3], [(0, 0), (0, 1), (0, 2), (0, 3), (0, 4), (0, 5), (0, 6), (0, 7), (0, 8), (0, 9), (0, 10), (0, 11), (0, 12), (0, 13), (0, 14), (0, 15)], [false, false, false, false, false, false, false, false, false, false, false, false, false, false, false, false], false, false, 0), (false, 8, 0))
def rX8_hasPiece : List ab_R := [(0, .aload_n 0, 1, 0, 0, 0, [], none),
  (1, .getfield 23, 3, 8, 2, 0, [], none),
  (4, .getfield 121, 3, 5, 3, 0, [], none),
  (7, .ifCond .le 7, 3, 0, 0, 0, [14], none),
  (10, .iconst 1, 1, 0, 0, 0, [], none),
  (11, .goto 4, 3, 0, 0, 0, [15], none),
  (14, .iconst 0, 1, 0, 0, 0, [], none),
  (15, .ireturn, 1, 0, 0, 0, [], none)]
set_option maxRecDepth 100000 in
theorem kX8_hasPiece : ab_def_ok mX8_hasPiece rX8_hasPiece := ⟨ab_mok_of 639 101 638 19 (by decide +kernel), [0, 393, 150, 0, 0, 0, 0, 0], by decide +kernel⟩
set_option maxRecDepth 100000 in
theorem vX8_hasPiece_0 {x : ab_Cx} {d mc ms : Nat} {Post : Option ab_V → List ab_Ob → Prop} (hx : ab_At x mX8_hasPiece d mc ms Post) (w0 w1 w2 w3 w4 w5 w6 w7 w8 w9 w10 w11 w12 w13 w14 w15 : ab_Ob) (kc ks : Nat)
    (h : (((w3.1 3) ≤ 0 → (((0 : Int) = 0 ∨ (0 : Int) = 1) ∧ Post (some (ab_I 0)) [w0, w1, w2, w3, w4, w5, w6, w7, w8, w9, w10, w11, w12, w13, w14, w15])) ∧ (¬ (w3.1 3) ≤ 0 → (((1 : Int) = 0 ∨ (1 : Int) = 1) ∧ Post (some (ab_I 1)) [w0, w1, w2, w3, w4, w5, w6, w7, w8, w9, w10, w11, w12, w13, w14, w15])))) :
    ab_J x 0 [some (ab_O 0)] [] [w0, w1, w2, w3, w4, w5, w6, w7, w8, w9, w10, w11, w12, w13, w14, w15] kc ks := ab_go hx kX8_hasPiece.2 11 [] 0 h
def mX8_about : ab_M := ((yX8_about, cX8_about, 2, (some .int)), ([8, 4, 5, 5, 0, 1, 2, 7, 6, 1, 7, 7, 7, 7, 3, 3], [(0, 0), (0, 1), (0, 2), (0, 3), (0, 4), (0, 5), (0, 6), (0, 7), (0, 8), (0, 9), (0, 10), (0, 11), (0, 12), (0, 13), (0, 14), (0, 15)], [true, false, false, false, false, false, false, false, false, false, false, false, false, false, false, false], false, false, 0), (false, 8, 1))
def rX8_about : List ab_R := [(0, .aload_n 0, 1, 0, 0, 0, [], none),
  (1, .invokevirtual 130, 3, 0, 0, 0, [], some mX8_hasPiece),
  (4, .ifCond .ne 9, 3, 0, 0, 0, [13], none),
  (7, .aload_n 0, 1, 0, 0, 0, [], none),
  (8, .iconst 1, 1, 0, 0, 0, [], none),
  (9, .invokevirtual 101, 3, 0, 0, 0, [], some mX8_refuse),
  (12, .ireturn, 1, 0, 0, 0, [], none),
  (13, .iload_n 1, 1, 0, 0, 0, [], none),
  (14, .tableswitch 120 0 5 #[38, 50, 62, 74, 86, 108], 38, 0, 0, 0, [134, 52, 64, 76, 88, 100, 122], none),
  (52, .aload_n 0, 1, 0, 0, 0, [], none),
  (53, .aload_n 0, 1, 0, 0, 0, [], none),
  (54, .getfield 23, 3, 8, 2, 0, [], none),
  (57, .getfield 134, 3, 5, 0, 0, [], none),
  (60, .invokevirtual 124, 3, 0, 0, 0, [], some mX8_grant),
  (63, .ireturn, 1, 0, 0, 0, [], none),
  (64, .aload_n 0, 1, 0, 0, 0, [], none),
  (65, .aload_n 0, 1, 0, 0, 0, [], none),
  (66, .getfield 23, 3, 8, 2, 0, [], none),
  (69, .getfield 137, 3, 5, 1, 0, [], none),
  (72, .invokevirtual 124, 3, 0, 0, 0, [], some mX8_grant),
  (75, .ireturn, 1, 0, 0, 0, [], none),
  (76, .aload_n 0, 1, 0, 0, 0, [], none),
  (77, .aload_n 0, 1, 0, 0, 0, [], none),
  (78, .getfield 23, 3, 8, 2, 0, [], none),
  (81, .getfield 140, 3, 5, 2, 0, [], none),
  (84, .invokevirtual 124, 3, 0, 0, 0, [], some mX8_grant),
  (87, .ireturn, 1, 0, 0, 0, [], none),
  (88, .aload_n 0, 1, 0, 0, 0, [], none),
  (89, .aload_n 0, 1, 0, 0, 0, [], none),
  (90, .getfield 23, 3, 8, 2, 0, [], none),
  (93, .getfield 121, 3, 5, 3, 0, [], none),
  (96, .invokevirtual 124, 3, 0, 0, 0, [], some mX8_grant),
  (99, .ireturn, 1, 0, 0, 0, [], none),
  (100, .aload_n 0, 1, 0, 0, 0, [], none),
  (101, .aload_n 0, 1, 0, 0, 0, [], none),
  (102, .getfield 23, 3, 8, 2, 0, [], none),
  (105, .iconst 0, 1, 0, 0, 0, [], none),
  (106, .aload_n 0, 1, 0, 0, 0, [], none),
  (107, .getfield 23, 3, 8, 2, 0, [], none),
  (110, .getfield 121, 3, 5, 3, 0, [], none),
  (113, .iconst 1, 1, 0, 0, 0, [], none),
  (114, .isub, 1, 0, 0, 0, [], none),
  (115, .invokevirtual 143, 3, 0, 0, 0, [], some mX5_lasting),
  (118, .invokevirtual 124, 3, 0, 0, 0, [], some mX8_grant),
  (121, .ireturn, 1, 0, 0, 0, [], none),
  (122, .aload_n 0, 1, 0, 0, 0, [], none),
  (123, .aload_n 0, 1, 0, 0, 0, [], none),
  (124, .getfield 23, 3, 8, 2, 0, [], none),
  (127, .invokevirtual 147, 3, 0, 0, 0, [], some mX5_weighted),
  (130, .invokevirtual 124, 3, 0, 0, 0, [], some mX8_grant),
  (133, .ireturn, 1, 0, 0, 0, [], none),
  (134, .aload_n 0, 1, 0, 0, 0, [], none),
  (135, .iconst 1, 1, 0, 0, 0, [], none),
  (136, .invokevirtual 101, 3, 0, 0, 0, [], some mX8_refuse),
  (139, .ireturn, 1, 0, 0, 0, [], none)]
set_option maxRecDepth 100000 in
theorem kX8_about : ab_def_ok mX8_about rX8_about := ⟨ab_mok_of 635 101 633 634 (by decide +kernel), [0, 636, 0, 0, 0, 455, 0, 0, 0, 0, 0, 393, 141, 620, 0, 0, 0, 393, 144, 620, 0, 0, 0, 393, 147, 620, 0, 0, 0, 393, 150, 620, 0, 0, 0, 393, 0, 0, 393, 150, 0, 0, 640, 620, 0, 0, 0, 393, 644, 620, 0, 0, 0, 455, 0], by decide +kernel⟩
set_option maxRecDepth 100000 in
theorem vX8_about_0 {x : ab_Cx} {d mc ms : Nat} {Post : Option ab_V → List ab_Ob → Prop} (hx : ab_At x mX8_about d mc ms Post) (a1 : Int) (w0 w1 w2 w3 w4 w5 w6 w7 w8 w9 w10 w11 w12 w13 w14 w15 : ab_Ob) (kc ks : Nat)
    (h : (∃ Q1 : Option ab_V → List ab_Ob → Prop, ab_Ct d 0 0 mX8_hasPiece [ab_O 0] [w0, w1, w2, w3, w4, w5, w6, w7, w8, w9, w10, w11, w12, w13, w14, w15] Q1 ∧ (∀ r2 : Int, Q1 (some (ab_I r2)) [w0, w1, w2, w3, w4, w5, w6, w7, w8, w9, w10, w11, w12, w13, w14, w15] → ((¬ r2 = 0 → ((a1 < 0 ∨ 5 < a1 → (∃ Q25 : Option ab_V → List ab_Ob → Prop, ab_Ct d 0 0 mX8_refuse [ab_O 0, ab_I 1] [w0, w1, w2, w3, w4, w5, w6, w7, w8, w9, w10, w11, w12, w13, w14, w15] Q25 ∧ (∀ r26 : Int, ∀ v27 : ab_Ob, Q25 (some (ab_I r26)) [v27, w1, w2, w3, w4, w5, w6, w7, w8, w9, w10, w11, w12, w13, w14, w15] → Post (some (ab_I r26)) [v27, w1, w2, w3, w4, w5, w6, w7, w8, w9, w10, w11, w12, w13, w14, w15]))) ∧ ((a1 = 0 → (∃ Q22 : Option ab_V → List ab_Ob → Prop, ab_Ct d 0 0 mX8_grant [ab_O 0, ab_I (w3.1 0)] [w0, w1, w2, w3, w4, w5, w6, w7, w8, w9, w10, w11, w12, w13, w14, w15] Q22 ∧ (∀ r23 : Int, ∀ v24 : ab_Ob, Q22 (some (ab_I r23)) [v24, w1, w2, w3, w4, w5, w6, w7, w8, w9, w10, w11, w12, w13, w14, w15] → Post (some (ab_I r23)) [v24, w1, w2, w3, w4, w5, w6, w7, w8, w9, w10, w11, w12, w13, w14, w15]))) ∧ ((a1 = 1 → (∃ Q19 : Option ab_V → List ab_Ob → Prop, ab_Ct d 0 0 mX8_grant [ab_O 0, ab_I (w3.1 1)] [w0, w1, w2, w3, w4, w5, w6, w7, w8, w9, w10, w11, w12, w13, w14, w15] Q19 ∧ (∀ r20 : Int, ∀ v21 : ab_Ob, Q19 (some (ab_I r20)) [v21, w1, w2, w3, w4, w5, w6, w7, w8, w9, w10, w11, w12, w13, w14, w15] → Post (some (ab_I r20)) [v21, w1, w2, w3, w4, w5, w6, w7, w8, w9, w10, w11, w12, w13, w14, w15]))) ∧ ((a1 = 2 → (∃ Q16 : Option ab_V → List ab_Ob → Prop, ab_Ct d 0 0 mX8_grant [ab_O 0, ab_I (w3.1 2)] [w0, w1, w2, w3, w4, w5, w6, w7, w8, w9, w10, w11, w12, w13, w14, w15] Q16 ∧ (∀ r17 : Int, ∀ v18 : ab_Ob, Q16 (some (ab_I r17)) [v18, w1, w2, w3, w4, w5, w6, w7, w8, w9, w10, w11, w12, w13, w14, w15] → Post (some (ab_I r17)) [v18, w1, w2, w3, w4, w5, w6, w7, w8, w9, w10, w11, w12, w13, w14, w15]))) ∧ ((a1 = 3 → (∃ Q13 : Option ab_V → List ab_Ob → Prop, ab_Ct d 0 0 mX8_grant [ab_O 0, ab_I (w3.1 3)] [w0, w1, w2, w3, w4, w5, w6, w7, w8, w9, w10, w11, w12, w13, w14, w15] Q13 ∧ (∀ r14 : Int, ∀ v15 : ab_Ob, Q13 (some (ab_I r14)) [v15, w1, w2, w3, w4, w5, w6, w7, w8, w9, w10, w11, w12, w13, w14, w15] → Post (some (ab_I r14)) [v15, w1, w2, w3, w4, w5, w6, w7, w8, w9, w10, w11, w12, w13, w14, w15]))) ∧ ((a1 = 4 → ((-2147483648 ≤ (w3.1 3) - 1 ∧ (w3.1 3) - 1 ≤ 2147483647) ∧ (∃ Q8 : Option ab_V → List ab_Ob → Prop, ab_Ct d 0 0 mX5_lasting [ab_O 0, ab_I 0, ab_I ((w3.1 3) - 1)] [w3] Q8 ∧ (∀ r9 : Int, Q8 (some (ab_I r9)) [w3] → (∃ Q10 : Option ab_V → List ab_Ob → Prop, ab_Ct d 0 0 mX8_grant [ab_O 0, ab_I r9] [w0, w1, w2, w3, w4, w5, w6, w7, w8, w9, w10, w11, w12, w13, w14, w15] Q10 ∧ (∀ r11 : Int, ∀ v12 : ab_Ob, Q10 (some (ab_I r11)) [v12, w1, w2, w3, w4, w5, w6, w7, w8, w9, w10, w11, w12, w13, w14, w15] → Post (some (ab_I r11)) [v12, w1, w2, w3, w4, w5, w6, w7, w8, w9, w10, w11, w12, w13, w14, w15])))))) ∧ ((a1 = 5 → (∃ Q3 : Option ab_V → List ab_Ob → Prop, ab_Ct d 0 0 mX5_weighted [ab_O 0] [w3] Q3 ∧ (∀ r4 : Int, Q3 (some (ab_I r4)) [w3] → (∃ Q5 : Option ab_V → List ab_Ob → Prop, ab_Ct d 0 0 mX8_grant [ab_O 0, ab_I r4] [w0, w1, w2, w3, w4, w5, w6, w7, w8, w9, w10, w11, w12, w13, w14, w15] Q5 ∧ (∀ r6 : Int, ∀ v7 : ab_Ob, Q5 (some (ab_I r6)) [v7, w1, w2, w3, w4, w5, w6, w7, w8, w9, w10, w11, w12, w13, w14, w15] → Post (some (ab_I r6)) [v7, w1, w2, w3, w4, w5, w6, w7, w8, w9, w10, w11, w12, w13, w14, w15]))))) ∧ True)))))))) ∧ (r2 = 0 → (∃ Q28 : Option ab_V → List ab_Ob → Prop, ab_Ct d 0 0 mX8_refuse [ab_O 0, ab_I 1] [w0, w1, w2, w3, w4, w5, w6, w7, w8, w9, w10, w11, w12, w13, w14, w15] Q28 ∧ (∀ r29 : Int, ∀ v30 : ab_Ob, Q28 (some (ab_I r29)) [v30, w1, w2, w3, w4, w5, w6, w7, w8, w9, w10, w11, w12, w13, w14, w15] → Post (some (ab_I r29)) [v30, w1, w2, w3, w4, w5, w6, w7, w8, w9, w10, w11, w12, w13, w14, w15]))))))) :
    ab_J x 0 [some (ab_O 0), some (ab_I a1)] [] [w0, w1, w2, w3, w4, w5, w6, w7, w8, w9, w10, w11, w12, w13, w14, w15] kc ks := ab_go hx kX8_about.2 21 [] 0 h
def mX8_hasNote : ab_M := ((yX8_hasNote, cX8_hasNote, 2, (some .boolean)), ([8, 4, 5, 5, 0, 1, 2, 7, 6, 1, 7, 7, 7, 7, 3, 3], [(0, 0), (0, 1), (0, 2), (0, 3), (0, 4), (0, 5), (0, 6), (0, 7), (0, 8), (0, 9), (0, 10), (0, 11), (0, 12), (0, 13), (0, 14), (0, 15)], [false, false, false, false, false, false, false, false, false, false, false, false, false, false, false, false], false, false, 0), (false, 8, 1))
def rX8_hasNote : List ab_R := [(0, .iload_n 1, 1, 0, 0, 0, [], none),
  (1, .ifCond .lt 18, 3, 0, 0, 0, [19], none),
  (4, .iload_n 1, 1, 0, 0, 0, [], none),
  (5, .aload_n 0, 1, 0, 0, 0, [], none),
  (6, .getfield 23, 3, 8, 2, 0, [], none),
  (9, .getfield 121, 3, 5, 3, 0, [], none),
  (12, .if_icmp .ge 7, 3, 0, 0, 0, [19], none),
  (15, .iconst 1, 1, 0, 0, 0, [], none),
  (16, .goto 4, 3, 0, 0, 0, [20], none),
  (19, .iconst 0, 1, 0, 0, 0, [], none),
  (20, .ireturn, 1, 0, 0, 0, [], none)]
set_option maxRecDepth 100000 in
theorem kX8_hasNote : ab_def_ok mX8_hasNote rX8_hasNote := ⟨ab_mok_of 655 101 654 20 (by decide +kernel), [0, 0, 0, 0, 393, 150, 0, 0, 0, 0, 0], by decide +kernel⟩
set_option maxRecDepth 100000 in
theorem vX8_hasNote_0 {x : ab_Cx} {d mc ms : Nat} {Post : Option ab_V → List ab_Ob → Prop} (hx : ab_At x mX8_hasNote d mc ms Post) (a1 : Int) (w0 w1 w2 w3 w4 w5 w6 w7 w8 w9 w10 w11 w12 w13 w14 w15 : ab_Ob) (kc ks : Nat)
    (h : ((a1 < 0 → (((0 : Int) = 0 ∨ (0 : Int) = 1) ∧ Post (some (ab_I 0)) [w0, w1, w2, w3, w4, w5, w6, w7, w8, w9, w10, w11, w12, w13, w14, w15])) ∧ (¬ a1 < 0 → (((w3.1 3) ≤ a1 → (((0 : Int) = 0 ∨ (0 : Int) = 1) ∧ Post (some (ab_I 0)) [w0, w1, w2, w3, w4, w5, w6, w7, w8, w9, w10, w11, w12, w13, w14, w15])) ∧ (¬ (w3.1 3) ≤ a1 → (((1 : Int) = 0 ∨ (1 : Int) = 1) ∧ Post (some (ab_I 1)) [w0, w1, w2, w3, w4, w5, w6, w7, w8, w9, w10, w11, w12, w13, w14, w15])))))) :
    ab_J x 0 [some (ab_O 0), some (ab_I a1)] [] [w0, w1, w2, w3, w4, w5, w6, w7, w8, w9, w10, w11, w12, w13, w14, w15] kc ks := ab_go hx kX8_hasNote.2 14 [] 0 h
def mX8_freshSpans : ab_M := ((yX8_freshSpans, cX8_freshSpans, 1, (some (.object "HeadTrees$Chart"))), ([8, 4, 5, 5, 0, 1, 2, 7, 6, 1, 7, 7, 7, 7, 3, 3], [(0, 0), (0, 1), (0, 2), (0, 3), (0, 4), (0, 5), (0, 6), (0, 7), (0, 8), (0, 9), (0, 10), (0, 11), (0, 12), (0, 13), (0, 14), (0, 15)], [true, false, false, false, false, true, false, false, false, false, false, false, false, false, false, false], true, true, 5), (false, 8, 0))
def rX8_freshSpans : List ab_R := [(0, .aload_n 0, 1, 0, 0, 0, [], none),
  (1, .getfield 41, 3, 8, 5, 0, [], none),
  (4, .ifCond .ne 19, 3, 0, 0, 0, [23], none),
  (7, .aload_n 0, 1, 0, 0, 0, [], none),
  (8, .getfield 37, 3, 8, 4, 0, [], none),
  (11, .aload_n 0, 1, 0, 0, 0, [], none),
  (12, .getfield 23, 3, 8, 2, 0, [], none),
  (15, .invokevirtual 379, 3, 0, 0, 0, [], some mX1_fill),
  (18, .aload_n 0, 1, 0, 0, 0, [], none),
  (19, .iconst 1, 1, 0, 0, 0, [], none),
  (20, .putfield 41, 3, 8, 5, 0, [], none),
  (23, .aload_n 0, 1, 0, 0, 0, [], none),
  (24, .getfield 37, 3, 8, 4, 0, [], none),
  (27, .areturn, 1, 0, 0, 0, [], none)]
set_option maxRecDepth 100000 in
theorem kX8_freshSpans : ab_def_ok mX8_freshSpans rX8_freshSpans := ⟨ab_mok_of 663 101 662 22 (by decide +kernel), [0, 396, 0, 0, 395, 0, 393, 664, 0, 0, 396, 0, 395, 0], by decide +kernel⟩
set_option maxRecDepth 100000 in
theorem vX8_freshSpans_0 {x : ab_Cx} {d mc ms : Nat} {Post : Option ab_V → List ab_Ob → Prop} (hx : ab_At x mX8_freshSpans d mc ms Post) (w0 w1 w2 w3 w4 w5 w6 w7 w8 w9 w10 w11 w12 w13 w14 w15 : ab_Ob) (kc ks : Nat)
    (h : ((¬ (w0.1 5) = 0 → Post (some (ab_O 5)) [w0, w1, w2, w3, w4, w5, w6, w7, w8, w9, w10, w11, w12, w13, w14, w15]) ∧ ((w0.1 5) = 0 → (∃ mc1 ms2 : Nat, (kc + mc1 ≤ mc ∧ ks + ms2 ≤ ms) ∧ ∃ Q3 : Option ab_V → List ab_Ob → Prop, ab_Ct d mc1 ms2 mX1_fill [ab_O 0, ab_O 1] [w5, w3] Q3 ∧ (∀ v4 : ab_Ob, Q3 none [v4, w3] → (((1 : Int) = 0 ∨ (1 : Int) = 1) ∧ Post (some (ab_O 5)) [(ab_pf w0 5 1), w1, w2, w3, w4, v4, w6, w7, w8, w9, w10, w11, w12, w13, w14, w15])))))) :
    ab_J x 0 [some (ab_O 0)] [] [w0, w1, w2, w3, w4, w5, w6, w7, w8, w9, w10, w11, w12, w13, w14, w15] kc ks := ab_go hx kX8_freshSpans.2 18 [] 0 h
def mX8_freshTree : ab_M := ((yX8_freshTree, cX8_freshTree, 1, (some (.object "HeadTrees$Tree"))), ([8, 4, 5, 5, 0, 1, 2, 7, 6, 1, 7, 7, 7, 7, 3, 3], [(0, 0), (0, 1), (0, 2), (0, 3), (0, 4), (0, 5), (0, 6), (0, 7), (0, 8), (0, 9), (0, 10), (0, 11), (0, 12), (0, 13), (0, 14), (0, 15)], [true, false, false, false, false, true, false, true, false, false, false, false, false, false, false, false], true, true, 7), (false, 8, 0))
def rX8_freshTree : List ab_R := [(0, .aload_n 0, 1, 0, 0, 0, [], none),
  (1, .getfield 62, 3, 8, 9, 0, [], none),
  (4, .ifCond .ne 29, 3, 0, 0, 0, [33], none),
  (7, .aload_n 0, 1, 0, 0, 0, [], none),
  (8, .getfield 58, 3, 8, 8, 0, [], none),
  (11, .aload_n 0, 1, 0, 0, 0, [], none),
  (12, .invokevirtual 188, 3, 0, 0, 0, [], some mX8_freshSpans),
  (15, .iconst 0, 1, 0, 0, 0, [], none),
  (16, .aload_n 0, 1, 0, 0, 0, [], none),
  (17, .getfield 23, 3, 8, 2, 0, [], none),
  (20, .getfield 121, 3, 5, 3, 0, [], none),
  (23, .iconst 1, 1, 0, 0, 0, [], none),
  (24, .isub, 1, 0, 0, 0, [], none),
  (25, .invokevirtual 327, 3, 0, 0, 0, [], some mX7_build),
  (28, .aload_n 0, 1, 0, 0, 0, [], none),
  (29, .iconst 1, 1, 0, 0, 0, [], none),
  (30, .putfield 62, 3, 8, 9, 0, [], none),
  (33, .aload_n 0, 1, 0, 0, 0, [], none),
  (34, .getfield 58, 3, 8, 8, 0, [], none),
  (37, .areturn, 1, 0, 0, 0, [], none)]
set_option maxRecDepth 100000 in
theorem kX8_freshTree : ab_def_ok mX8_freshTree rX8_freshTree := ⟨ab_mok_of 659 101 658 21 (by decide +kernel), [0, 400, 0, 0, 399, 0, 660, 0, 0, 393, 150, 0, 0, 698, 0, 0, 400, 0, 399, 0], by decide +kernel⟩
set_option maxRecDepth 100000 in
theorem vX8_freshTree_0 {x : ab_Cx} {d mc ms : Nat} {Post : Option ab_V → List ab_Ob → Prop} (hx : ab_At x mX8_freshTree d mc ms Post) (w0 w1 w2 w3 w4 w5 w6 w7 w8 w9 w10 w11 w12 w13 w14 w15 : ab_Ob) (kc ks : Nat)
    (h : ((¬ (w0.1 9) = 0 → Post (some (ab_O 7)) [w0, w1, w2, w3, w4, w5, w6, w7, w8, w9, w10, w11, w12, w13, w14, w15]) ∧ ((w0.1 9) = 0 → (∃ mc1 ms2 : Nat, (kc + mc1 ≤ mc ∧ ks + ms2 ≤ ms) ∧ ∃ Q3 : Option ab_V → List ab_Ob → Prop, ab_Ct d mc1 ms2 mX8_freshSpans [ab_O 0] [w0, w1, w2, w3, w4, w5, w6, w7, w8, w9, w10, w11, w12, w13, w14, w15] Q3 ∧ (∀ v4 : ab_Ob, ∀ v5 : ab_Ob, Q3 (some (ab_O 5)) [v4, w1, w2, w3, w4, v5, w6, w7, w8, w9, w10, w11, w12, w13, w14, w15] → ((-2147483648 ≤ (w3.1 3) - 1 ∧ (w3.1 3) - 1 ≤ 2147483647) ∧ (∃ Q6 : Option ab_V → List ab_Ob → Prop, ab_Ct d 0 0 mX7_build [ab_O 0, ab_O 1, ab_I 0, ab_I ((w3.1 3) - 1)] [w7, v5] Q6 ∧ (∀ v7 : ab_Ob, Q6 none [v7, v5] → (((1 : Int) = 0 ∨ (1 : Int) = 1) ∧ Post (some (ab_O 7)) [(ab_pf v4 9 1), w1, w2, w3, w4, v5, w6, v7, w8, w9, w10, w11, w12, w13, w14, w15]))))))))) :
    ab_J x 0 [some (ab_O 0)] [] [w0, w1, w2, w3, w4, w5, w6, w7, w8, w9, w10, w11, w12, w13, w14, w15] kc ks := ab_go hx kX8_freshTree.2 24 [] 0 h
def mX8_note : ab_M := ((yX8_note, cX8_note, 3, (some .int)), ([8, 4, 5, 5, 0, 1, 2, 7, 6, 1, 7, 7, 7, 7, 3, 3], [(0, 0), (0, 1), (0, 2), (0, 3), (0, 4), (0, 5), (0, 6), (0, 7), (0, 8), (0, 9), (0, 10), (0, 11), (0, 12), (0, 13), (0, 14), (0, 15)], [true, false, false, false, false, true, false, true, false, false, false, false, false, false, false, false], true, true, 0), (false, 8, 2))
def rX8_note : List ab_R := [(0, .aload_n 0, 1, 0, 0, 0, [], none),
  (1, .iload_n 1, 1, 0, 0, 0, [], none),
  (2, .invokevirtual 151, 3, 0, 0, 0, [], some mX8_hasNote),
  (5, .ifCond .ne 9, 3, 0, 0, 0, [14], none),
  (8, .aload_n 0, 1, 0, 0, 0, [], none),
  (9, .iconst 1, 1, 0, 0, 0, [], none),
  (10, .invokevirtual 101, 3, 0, 0, 0, [], some mX8_refuse),
  (13, .ireturn, 1, 0, 0, 0, [], none),
  (14, .iload_n 2, 1, 0, 0, 0, [], none),
  (15, .tableswitch 120 0 5 #[37, 51, 65, 79, 93, 107], 37, 0, 0, 0, [135, 52, 66, 80, 94, 108, 122], none),
  (52, .aload_n 0, 1, 0, 0, 0, [], none),
  (53, .aload_n 0, 1, 0, 0, 0, [], none),
  (54, .getfield 23, 3, 8, 2, 0, [], none),
  (57, .getfield 155, 3, 5, 4, 0, [], none),
  (60, .iload_n 1, 1, 0, 0, 0, [], none),
  (61, .iaload, 1, 0, 0, 0, [], none),
  (62, .invokevirtual 124, 3, 0, 0, 0, [], some mX8_grant),
  (65, .ireturn, 1, 0, 0, 0, [], none),
  (66, .aload_n 0, 1, 0, 0, 0, [], none),
  (67, .aload_n 0, 1, 0, 0, 0, [], none),
  (68, .getfield 23, 3, 8, 2, 0, [], none),
  (71, .getfield 159, 3, 5, 5, 0, [], none),
  (74, .iload_n 1, 1, 0, 0, 0, [], none),
  (75, .iaload, 1, 0, 0, 0, [], none),
  (76, .invokevirtual 124, 3, 0, 0, 0, [], some mX8_grant),
  (79, .ireturn, 1, 0, 0, 0, [], none),
  (80, .aload_n 0, 1, 0, 0, 0, [], none),
  (81, .aload_n 0, 1, 0, 0, 0, [], none),
  (82, .getfield 23, 3, 8, 2, 0, [], none),
  (85, .getfield 162, 3, 5, 7, 0, [], none),
  (88, .iload_n 1, 1, 0, 0, 0, [], none),
  (89, .iaload, 1, 0, 0, 0, [], none),
  (90, .invokevirtual 124, 3, 0, 0, 0, [], some mX8_grant),
  (93, .ireturn, 1, 0, 0, 0, [], none),
  (94, .aload_n 0, 1, 0, 0, 0, [], none),
  (95, .aload_n 0, 1, 0, 0, 0, [], none),
  (96, .getfield 23, 3, 8, 2, 0, [], none),
  (99, .getfield 165, 3, 5, 8, 0, [], none),
  (102, .iload_n 1, 1, 0, 0, 0, [], none),
  (103, .iaload, 1, 0, 0, 0, [], none),
  (104, .invokevirtual 124, 3, 0, 0, 0, [], some mX8_grant),
  (107, .ireturn, 1, 0, 0, 0, [], none),
  (108, .aload_n 0, 1, 0, 0, 0, [], none),
  (109, .aload_n 0, 1, 0, 0, 0, [], none),
  (110, .getfield 23, 3, 8, 2, 0, [], none),
  (113, .getfield 168, 3, 5, 9, 0, [], none),
  (116, .iload_n 1, 1, 0, 0, 0, [], none),
  (117, .iaload, 1, 0, 0, 0, [], none),
  (118, .invokevirtual 124, 3, 0, 0, 0, [], some mX8_grant),
  (121, .ireturn, 1, 0, 0, 0, [], none),
  (122, .aload_n 0, 1, 0, 0, 0, [], none),
  (123, .aload_n 0, 1, 0, 0, 0, [], none),
  (124, .invokevirtual 171, 3, 0, 0, 0, [], some mX8_freshTree),
  (127, .iload_n 1, 1, 0, 0, 0, [], none),
  (128, .invokevirtual 175, 3, 0, 0, 0, [], some mX7_rank),
  (131, .invokevirtual 124, 3, 0, 0, 0, [], some mX8_grant),
  (134, .ireturn, 1, 0, 0, 0, [], none),
  (135, .aload_n 0, 1, 0, 0, 0, [], none),
  (136, .iconst 1, 1, 0, 0, 0, [], none),
  (137, .invokevirtual 101, 3, 0, 0, 0, [], some mX8_refuse),
  (140, .ireturn, 1, 0, 0, 0, [], none)]
set_option maxRecDepth 100000 in
theorem kX8_note : ab_def_ok mX8_note rX8_note := ⟨ab_mok_of 651 101 649 650 (by decide +kernel), [0, 0, 652, 0, 0, 0, 455, 0, 0, 0, 0, 0, 393, 156, 0, 0, 620, 0, 0, 0, 393, 158, 0, 0, 620, 0, 0, 0, 393, 165, 0, 0, 620, 0, 0, 0, 393, 167, 0, 0, 620, 0, 0, 0, 393, 169, 0, 0, 620, 0, 0, 0, 656, 0, 735, 620, 0, 0, 0, 455, 0], by decide +kernel⟩
set_option maxRecDepth 100000 in
theorem vX8_note_0 {x : ab_Cx} {d mc ms : Nat} {Post : Option ab_V → List ab_Ob → Prop} (hx : ab_At x mX8_note d mc ms Post) (a1 a2 : Int) (w0 w1 w2 w3 w4 w5 w6 w7 w8 w9 w10 w11 w12 w13 w14 w15 : ab_Ob) (kc ks : Nat)
    (h : (∃ Q1 : Option ab_V → List ab_Ob → Prop, ab_Ct d 0 0 mX8_hasNote [ab_O 0, ab_I a1] [w0, w1, w2, w3, w4, w5, w6, w7, w8, w9, w10, w11, w12, w13, w14, w15] Q1 ∧ (∀ r2 : Int, Q1 (some (ab_I r2)) [w0, w1, w2, w3, w4, w5, w6, w7, w8, w9, w10, w11, w12, w13, w14, w15] → ((¬ r2 = 0 → ((a2 < 0 ∨ 5 < a2 → (∃ Q29 : Option ab_V → List ab_Ob → Prop, ab_Ct d 0 0 mX8_refuse [ab_O 0, ab_I 1] [w0, w1, w2, w3, w4, w5, w6, w7, w8, w9, w10, w11, w12, w13, w14, w15] Q29 ∧ (∀ r30 : Int, ∀ v31 : ab_Ob, Q29 (some (ab_I r30)) [v31, w1, w2, w3, w4, w5, w6, w7, w8, w9, w10, w11, w12, w13, w14, w15] → Post (some (ab_I r30)) [v31, w1, w2, w3, w4, w5, w6, w7, w8, w9, w10, w11, w12, w13, w14, w15]))) ∧ ((a2 = 0 → ((0 ≤ a1 ∧ a1 < (w3.2 4).1) ∧ (∃ Q26 : Option ab_V → List ab_Ob → Prop, ab_Ct d 0 0 mX8_grant [ab_O 0, ab_I ((w3.2 4).2 a1)] [w0, w1, w2, w3, w4, w5, w6, w7, w8, w9, w10, w11, w12, w13, w14, w15] Q26 ∧ (∀ r27 : Int, ∀ v28 : ab_Ob, Q26 (some (ab_I r27)) [v28, w1, w2, w3, w4, w5, w6, w7, w8, w9, w10, w11, w12, w13, w14, w15] → Post (some (ab_I r27)) [v28, w1, w2, w3, w4, w5, w6, w7, w8, w9, w10, w11, w12, w13, w14, w15])))) ∧ ((a2 = 1 → ((0 ≤ a1 ∧ a1 < (w3.2 5).1) ∧ (∃ Q23 : Option ab_V → List ab_Ob → Prop, ab_Ct d 0 0 mX8_grant [ab_O 0, ab_I ((w3.2 5).2 a1)] [w0, w1, w2, w3, w4, w5, w6, w7, w8, w9, w10, w11, w12, w13, w14, w15] Q23 ∧ (∀ r24 : Int, ∀ v25 : ab_Ob, Q23 (some (ab_I r24)) [v25, w1, w2, w3, w4, w5, w6, w7, w8, w9, w10, w11, w12, w13, w14, w15] → Post (some (ab_I r24)) [v25, w1, w2, w3, w4, w5, w6, w7, w8, w9, w10, w11, w12, w13, w14, w15])))) ∧ ((a2 = 2 → ((0 ≤ a1 ∧ a1 < (w3.2 7).1) ∧ (∃ Q20 : Option ab_V → List ab_Ob → Prop, ab_Ct d 0 0 mX8_grant [ab_O 0, ab_I ((w3.2 7).2 a1)] [w0, w1, w2, w3, w4, w5, w6, w7, w8, w9, w10, w11, w12, w13, w14, w15] Q20 ∧ (∀ r21 : Int, ∀ v22 : ab_Ob, Q20 (some (ab_I r21)) [v22, w1, w2, w3, w4, w5, w6, w7, w8, w9, w10, w11, w12, w13, w14, w15] → Post (some (ab_I r21)) [v22, w1, w2, w3, w4, w5, w6, w7, w8, w9, w10, w11, w12, w13, w14, w15])))) ∧ ((a2 = 3 → ((0 ≤ a1 ∧ a1 < (w3.2 8).1) ∧ (∃ Q17 : Option ab_V → List ab_Ob → Prop, ab_Ct d 0 0 mX8_grant [ab_O 0, ab_I ((w3.2 8).2 a1)] [w0, w1, w2, w3, w4, w5, w6, w7, w8, w9, w10, w11, w12, w13, w14, w15] Q17 ∧ (∀ r18 : Int, ∀ v19 : ab_Ob, Q17 (some (ab_I r18)) [v19, w1, w2, w3, w4, w5, w6, w7, w8, w9, w10, w11, w12, w13, w14, w15] → Post (some (ab_I r18)) [v19, w1, w2, w3, w4, w5, w6, w7, w8, w9, w10, w11, w12, w13, w14, w15])))) ∧ ((a2 = 4 → ((0 ≤ a1 ∧ a1 < (w3.2 9).1) ∧ (∃ Q14 : Option ab_V → List ab_Ob → Prop, ab_Ct d 0 0 mX8_grant [ab_O 0, ab_I ((w3.2 9).2 a1)] [w0, w1, w2, w3, w4, w5, w6, w7, w8, w9, w10, w11, w12, w13, w14, w15] Q14 ∧ (∀ r15 : Int, ∀ v16 : ab_Ob, Q14 (some (ab_I r15)) [v16, w1, w2, w3, w4, w5, w6, w7, w8, w9, w10, w11, w12, w13, w14, w15] → Post (some (ab_I r15)) [v16, w1, w2, w3, w4, w5, w6, w7, w8, w9, w10, w11, w12, w13, w14, w15])))) ∧ ((a2 = 5 → (∃ mc3 ms4 : Nat, (kc + mc3 ≤ mc ∧ ks + ms4 ≤ ms) ∧ ∃ Q5 : Option ab_V → List ab_Ob → Prop, ab_Ct d mc3 ms4 mX8_freshTree [ab_O 0] [w0, w1, w2, w3, w4, w5, w6, w7, w8, w9, w10, w11, w12, w13, w14, w15] Q5 ∧ (∀ v6 : ab_Ob, ∀ v7 : ab_Ob, ∀ v8 : ab_Ob, Q5 (some (ab_O 7)) [v6, w1, w2, w3, w4, v7, w6, v8, w8, w9, w10, w11, w12, w13, w14, w15] → (∃ Q9 : Option ab_V → List ab_Ob → Prop, ab_Ct d 0 0 mX7_rank [ab_O 0, ab_I a1] [v8] Q9 ∧ (∀ r10 : Int, Q9 (some (ab_I r10)) [v8] → (∃ Q11 : Option ab_V → List ab_Ob → Prop, ab_Ct d 0 0 mX8_grant [ab_O 0, ab_I r10] [v6, w1, w2, w3, w4, v7, w6, v8, w8, w9, w10, w11, w12, w13, w14, w15] Q11 ∧ (∀ r12 : Int, ∀ v13 : ab_Ob, Q11 (some (ab_I r12)) [v13, w1, w2, w3, w4, v7, w6, v8, w8, w9, w10, w11, w12, w13, w14, w15] → Post (some (ab_I r12)) [v13, w1, w2, w3, w4, v7, w6, v8, w8, w9, w10, w11, w12, w13, w14, w15]))))))) ∧ True)))))))) ∧ (r2 = 0 → (∃ Q32 : Option ab_V → List ab_Ob → Prop, ab_Ct d 0 0 mX8_refuse [ab_O 0, ab_I 1] [w0, w1, w2, w3, w4, w5, w6, w7, w8, w9, w10, w11, w12, w13, w14, w15] Q32 ∧ (∀ r33 : Int, ∀ v34 : ab_Ob, Q32 (some (ab_I r33)) [v34, w1, w2, w3, w4, w5, w6, w7, w8, w9, w10, w11, w12, w13, w14, w15] → Post (some (ab_I r33)) [v34, w1, w2, w3, w4, w5, w6, w7, w8, w9, w10, w11, w12, w13, w14, w15]))))))) :
    ab_J x 0 [some (ab_O 0), some (ab_I a1), some (ab_I a2)] [] [w0, w1, w2, w3, w4, w5, w6, w7, w8, w9, w10, w11, w12, w13, w14, w15] kc ks := ab_go hx kX8_note.2 18 [] 0 h
def mX8_hasRule : ab_M := ((yX8_hasRule, cX8_hasRule, 2, (some .boolean)), ([8, 4, 5, 5, 0, 1, 2, 7, 6, 1, 7, 7, 7, 7, 3, 3], [(0, 0), (0, 1), (0, 2), (0, 3), (0, 4), (0, 5), (0, 6), (0, 7), (0, 8), (0, 9), (0, 10), (0, 11), (0, 12), (0, 13), (0, 14), (0, 15)], [false, false, false, false, false, false, false, false, false, false, false, false, false, false, false, false], false, false, 0), (false, 8, 1))
def rX8_hasRule : List ab_R := [(0, .aload_n 0, 1, 0, 0, 0, [], none),
  (1, .invokevirtual 130, 3, 0, 0, 0, [], some mX8_hasPiece),
  (4, .ifCond .eq 17, 3, 0, 0, 0, [21], none),
  (7, .iload_n 1, 1, 0, 0, 0, [], none),
  (8, .ifCond .lt 13, 3, 0, 0, 0, [21], none),
  (11, .iload_n 1, 1, 0, 0, 0, [], none),
  (12, .bipush 6, 2, 0, 0, 0, [], none),
  (14, .if_icmp .ge 7, 3, 0, 0, 0, [21], none),
  (17, .iconst 1, 1, 0, 0, 0, [], none),
  (18, .goto 4, 3, 0, 0, 0, [22], none),
  (21, .iconst 0, 1, 0, 0, 0, [], none),
  (22, .ireturn, 1, 0, 0, 0, [], none)]
set_option maxRecDepth 100000 in
theorem kX8_hasRule : ab_def_ok mX8_hasRule rX8_hasRule := ⟨ab_mok_of 746 101 745 28 (by decide +kernel), [0, 636, 0, 0, 0, 0, 0, 0, 0, 0, 0, 0], by decide +kernel⟩
set_option maxRecDepth 100000 in
theorem vX8_hasRule_0 {x : ab_Cx} {d mc ms : Nat} {Post : Option ab_V → List ab_Ob → Prop} (hx : ab_At x mX8_hasRule d mc ms Post) (a1 : Int) (w0 w1 w2 w3 w4 w5 w6 w7 w8 w9 w10 w11 w12 w13 w14 w15 : ab_Ob) (kc ks : Nat)
    (h : (∃ Q1 : Option ab_V → List ab_Ob → Prop, ab_Ct d 0 0 mX8_hasPiece [ab_O 0] [w0, w1, w2, w3, w4, w5, w6, w7, w8, w9, w10, w11, w12, w13, w14, w15] Q1 ∧ (∀ r2 : Int, Q1 (some (ab_I r2)) [w0, w1, w2, w3, w4, w5, w6, w7, w8, w9, w10, w11, w12, w13, w14, w15] → ((r2 = 0 → (((0 : Int) = 0 ∨ (0 : Int) = 1) ∧ Post (some (ab_I 0)) [w0, w1, w2, w3, w4, w5, w6, w7, w8, w9, w10, w11, w12, w13, w14, w15])) ∧ (¬ r2 = 0 → ((a1 < 0 → (((0 : Int) = 0 ∨ (0 : Int) = 1) ∧ Post (some (ab_I 0)) [w0, w1, w2, w3, w4, w5, w6, w7, w8, w9, w10, w11, w12, w13, w14, w15])) ∧ (¬ a1 < 0 → ((6 ≤ a1 → (((0 : Int) = 0 ∨ (0 : Int) = 1) ∧ Post (some (ab_I 0)) [w0, w1, w2, w3, w4, w5, w6, w7, w8, w9, w10, w11, w12, w13, w14, w15])) ∧ (¬ 6 ≤ a1 → (((1 : Int) = 0 ∨ (1 : Int) = 1) ∧ Post (some (ab_I 1)) [w0, w1, w2, w3, w4, w5, w6, w7, w8, w9, w10, w11, w12, w13, w14, w15])))))))))) :
    ab_J x 0 [some (ab_O 0), some (ab_I a1)] [] [w0, w1, w2, w3, w4, w5, w6, w7, w8, w9, w10, w11, w12, w13, w14, w15] kc ks := ab_go hx kX8_hasRule.2 15 [] 0 h
def mX8_weight : ab_M := ((yX8_weight, cX8_weight, 2, (some .int)), ([8, 4, 5, 5, 0, 1, 2, 7, 6, 1, 7, 7, 7, 7, 3, 3], [(0, 0), (0, 1), (0, 2), (0, 3), (0, 4), (0, 5), (0, 6), (0, 7), (0, 8), (0, 9), (0, 10), (0, 11), (0, 12), (0, 13), (0, 14), (0, 15)], [true, false, false, false, false, false, false, false, false, false, false, false, false, false, false, false], false, false, 0), (false, 8, 1))
def rX8_weight : List ab_R := [(0, .aload_n 0, 1, 0, 0, 0, [], none),
  (1, .iload_n 1, 1, 0, 0, 0, [], none),
  (2, .invokevirtual 178, 3, 0, 0, 0, [], some mX8_hasRule),
  (5, .ifCond .eq 19, 3, 0, 0, 0, [24], none),
  (8, .aload_n 0, 1, 0, 0, 0, [], none),
  (9, .aload_n 0, 1, 0, 0, 0, [], none),
  (10, .getfield 23, 3, 8, 2, 0, [], none),
  (13, .getfield 181, 3, 5, 6, 0, [], none),
  (16, .iload_n 1, 1, 0, 0, 0, [], none),
  (17, .iaload, 1, 0, 0, 0, [], none),
  (18, .invokevirtual 124, 3, 0, 0, 0, [], some mX8_grant),
  (21, .goto 8, 3, 0, 0, 0, [29], none),
  (24, .aload_n 0, 1, 0, 0, 0, [], none),
  (25, .iconst 1, 1, 0, 0, 0, [], none),
  (26, .invokevirtual 101, 3, 0, 0, 0, [], some mX8_refuse),
  (29, .ireturn, 1, 0, 0, 0, [], none)]
set_option maxRecDepth 100000 in
theorem kX8_weight : ab_def_ok mX8_weight rX8_weight := ⟨ab_mok_of 742 101 740 741 (by decide +kernel), [0, 0, 743, 0, 0, 0, 393, 162, 0, 0, 620, 0, 0, 0, 455, 0], by decide +kernel⟩
set_option maxRecDepth 100000 in
theorem vX8_weight_0 {x : ab_Cx} {d mc ms : Nat} {Post : Option ab_V → List ab_Ob → Prop} (hx : ab_At x mX8_weight d mc ms Post) (a1 : Int) (w0 w1 w2 w3 w4 w5 w6 w7 w8 w9 w10 w11 w12 w13 w14 w15 : ab_Ob) (kc ks : Nat)
    (h : (∃ Q1 : Option ab_V → List ab_Ob → Prop, ab_Ct d 0 0 mX8_hasRule [ab_O 0, ab_I a1] [w0, w1, w2, w3, w4, w5, w6, w7, w8, w9, w10, w11, w12, w13, w14, w15] Q1 ∧ (∀ r2 : Int, Q1 (some (ab_I r2)) [w0, w1, w2, w3, w4, w5, w6, w7, w8, w9, w10, w11, w12, w13, w14, w15] → ((r2 = 0 → (∃ Q3 : Option ab_V → List ab_Ob → Prop, ab_Ct d 0 0 mX8_refuse [ab_O 0, ab_I 1] [w0, w1, w2, w3, w4, w5, w6, w7, w8, w9, w10, w11, w12, w13, w14, w15] Q3 ∧ (∀ r4 : Int, ∀ v5 : ab_Ob, Q3 (some (ab_I r4)) [v5, w1, w2, w3, w4, w5, w6, w7, w8, w9, w10, w11, w12, w13, w14, w15] → Post (some (ab_I r4)) [v5, w1, w2, w3, w4, w5, w6, w7, w8, w9, w10, w11, w12, w13, w14, w15]))) ∧ (¬ r2 = 0 → ((0 ≤ a1 ∧ a1 < (w3.2 6).1) ∧ (∃ Q6 : Option ab_V → List ab_Ob → Prop, ab_Ct d 0 0 mX8_grant [ab_O 0, ab_I ((w3.2 6).2 a1)] [w0, w1, w2, w3, w4, w5, w6, w7, w8, w9, w10, w11, w12, w13, w14, w15] Q6 ∧ (∀ r7 : Int, ∀ v8 : ab_Ob, Q6 (some (ab_I r7)) [v8, w1, w2, w3, w4, w5, w6, w7, w8, w9, w10, w11, w12, w13, w14, w15] → Post (some (ab_I r7)) [v8, w1, w2, w3, w4, w5, w6, w7, w8, w9, w10, w11, w12, w13, w14, w15])))))))) :
    ab_J x 0 [some (ab_O 0), some (ab_I a1)] [] [w0, w1, w2, w3, w4, w5, w6, w7, w8, w9, w10, w11, w12, w13, w14, w15] kc ks := ab_go hx kX8_weight.2 17 [] 0 h
def mX8_hasSpan : ab_M := ((yX8_hasSpan, cX8_hasSpan, 3, (some .boolean)), ([8, 4, 5, 5, 0, 1, 2, 7, 6, 1, 7, 7, 7, 7, 3, 3], [(0, 0), (0, 1), (0, 2), (0, 3), (0, 4), (0, 5), (0, 6), (0, 7), (0, 8), (0, 9), (0, 10), (0, 11), (0, 12), (0, 13), (0, 14), (0, 15)], [false, false, false, false, false, false, false, false, false, false, false, false, false, false, false, false], false, false, 0), (false, 8, 2))
def rX8_hasSpan : List ab_R := [(0, .iload_n 1, 1, 0, 0, 0, [], none),
  (1, .ifCond .lt 23, 3, 0, 0, 0, [24], none),
  (4, .iload_n 1, 1, 0, 0, 0, [], none),
  (5, .iload_n 2, 1, 0, 0, 0, [], none),
  (6, .if_icmp .gt 18, 3, 0, 0, 0, [24], none),
  (9, .iload_n 2, 1, 0, 0, 0, [], none),
  (10, .aload_n 0, 1, 0, 0, 0, [], none),
  (11, .getfield 23, 3, 8, 2, 0, [], none),
  (14, .getfield 121, 3, 5, 3, 0, [], none),
  (17, .if_icmp .ge 7, 3, 0, 0, 0, [24], none),
  (20, .iconst 1, 1, 0, 0, 0, [], none),
  (21, .goto 4, 3, 0, 0, 0, [25], none),
  (24, .iconst 0, 1, 0, 0, 0, [], none),
  (25, .ireturn, 1, 0, 0, 0, [], none)]
set_option maxRecDepth 100000 in
theorem kX8_hasSpan : ab_def_ok mX8_hasSpan rX8_hasSpan := ⟨ab_mok_of 754 101 753 29 (by decide +kernel), [0, 0, 0, 0, 0, 0, 0, 393, 150, 0, 0, 0, 0, 0], by decide +kernel⟩
set_option maxRecDepth 100000 in
theorem vX8_hasSpan_0 {x : ab_Cx} {d mc ms : Nat} {Post : Option ab_V → List ab_Ob → Prop} (hx : ab_At x mX8_hasSpan d mc ms Post) (a1 a2 : Int) (w0 w1 w2 w3 w4 w5 w6 w7 w8 w9 w10 w11 w12 w13 w14 w15 : ab_Ob) (kc ks : Nat)
    (h : ((a1 < 0 → (((0 : Int) = 0 ∨ (0 : Int) = 1) ∧ Post (some (ab_I 0)) [w0, w1, w2, w3, w4, w5, w6, w7, w8, w9, w10, w11, w12, w13, w14, w15])) ∧ (¬ a1 < 0 → ((a2 < a1 → (((0 : Int) = 0 ∨ (0 : Int) = 1) ∧ Post (some (ab_I 0)) [w0, w1, w2, w3, w4, w5, w6, w7, w8, w9, w10, w11, w12, w13, w14, w15])) ∧ (¬ a2 < a1 → (((w3.1 3) ≤ a2 → (((0 : Int) = 0 ∨ (0 : Int) = 1) ∧ Post (some (ab_I 0)) [w0, w1, w2, w3, w4, w5, w6, w7, w8, w9, w10, w11, w12, w13, w14, w15])) ∧ (¬ (w3.1 3) ≤ a2 → (((1 : Int) = 0 ∨ (1 : Int) = 1) ∧ Post (some (ab_I 1)) [w0, w1, w2, w3, w4, w5, w6, w7, w8, w9, w10, w11, w12, w13, w14, w15])))))))) :
    ab_J x 0 [some (ab_O 0), some (ab_I a1), some (ab_I a2)] [] [w0, w1, w2, w3, w4, w5, w6, w7, w8, w9, w10, w11, w12, w13, w14, w15] kc ks := ab_go hx kX8_hasSpan.2 17 [] 0 h
def mX8_breaks : ab_M := ((yX8_breaks, cX8_breaks, 3, (some .int)), ([8, 4, 5, 5, 0, 1, 2, 7, 6, 1, 7, 7, 7, 7, 3, 3], [(0, 0), (0, 1), (0, 2), (0, 3), (0, 4), (0, 5), (0, 6), (0, 7), (0, 8), (0, 9), (0, 10), (0, 11), (0, 12), (0, 13), (0, 14), (0, 15)], [true, false, false, false, false, true, false, false, false, false, false, false, false, false, false, false], true, true, 0), (false, 8, 2))
def rX8_breaks : List ab_R := [(0, .aload_n 0, 1, 0, 0, 0, [], none),
  (1, .iload_n 1, 1, 0, 0, 0, [], none),
  (2, .iload_n 2, 1, 0, 0, 0, [], none),
  (3, .invokevirtual 184, 3, 0, 0, 0, [], some mX8_hasSpan),
  (6, .ifCond .eq 19, 3, 0, 0, 0, [25], none),
  (9, .aload_n 0, 1, 0, 0, 0, [], none),
  (10, .aload_n 0, 1, 0, 0, 0, [], none),
  (11, .invokevirtual 188, 3, 0, 0, 0, [], some mX8_freshSpans),
  (14, .iload_n 1, 1, 0, 0, 0, [], none),
  (15, .iload_n 2, 1, 0, 0, 0, [], none),
  (16, .invokevirtual 192, 3, 0, 0, 0, [], some mX1_least),
  (19, .invokevirtual 124, 3, 0, 0, 0, [], some mX8_grant),
  (22, .goto 8, 3, 0, 0, 0, [30], none),
  (25, .aload_n 0, 1, 0, 0, 0, [], none),
  (26, .iconst 1, 1, 0, 0, 0, [], none),
  (27, .invokevirtual 101, 3, 0, 0, 0, [], some mX8_refuse),
  (30, .ireturn, 1, 0, 0, 0, [], none)]
set_option maxRecDepth 100000 in
theorem kX8_breaks : ab_def_ok mX8_breaks rX8_breaks := ⟨ab_mok_of 750 101 748 749 (by decide +kernel), [0, 0, 0, 751, 0, 0, 0, 660, 0, 0, 755, 620, 0, 0, 0, 455, 0], by decide +kernel⟩
set_option maxRecDepth 100000 in
theorem vX8_breaks_0 {x : ab_Cx} {d mc ms : Nat} {Post : Option ab_V → List ab_Ob → Prop} (hx : ab_At x mX8_breaks d mc ms Post) (a1 a2 : Int) (w0 w1 w2 w3 w4 w5 w6 w7 w8 w9 w10 w11 w12 w13 w14 w15 : ab_Ob) (kc ks : Nat)
    (h : (∃ Q1 : Option ab_V → List ab_Ob → Prop, ab_Ct d 0 0 mX8_hasSpan [ab_O 0, ab_I a1, ab_I a2] [w0, w1, w2, w3, w4, w5, w6, w7, w8, w9, w10, w11, w12, w13, w14, w15] Q1 ∧ (∀ r2 : Int, Q1 (some (ab_I r2)) [w0, w1, w2, w3, w4, w5, w6, w7, w8, w9, w10, w11, w12, w13, w14, w15] → ((r2 = 0 → (∃ Q3 : Option ab_V → List ab_Ob → Prop, ab_Ct d 0 0 mX8_refuse [ab_O 0, ab_I 1] [w0, w1, w2, w3, w4, w5, w6, w7, w8, w9, w10, w11, w12, w13, w14, w15] Q3 ∧ (∀ r4 : Int, ∀ v5 : ab_Ob, Q3 (some (ab_I r4)) [v5, w1, w2, w3, w4, w5, w6, w7, w8, w9, w10, w11, w12, w13, w14, w15] → Post (some (ab_I r4)) [v5, w1, w2, w3, w4, w5, w6, w7, w8, w9, w10, w11, w12, w13, w14, w15]))) ∧ (¬ r2 = 0 → (∃ mc6 ms7 : Nat, (kc + mc6 ≤ mc ∧ ks + ms7 ≤ ms) ∧ ∃ Q8 : Option ab_V → List ab_Ob → Prop, ab_Ct d mc6 ms7 mX8_freshSpans [ab_O 0] [w0, w1, w2, w3, w4, w5, w6, w7, w8, w9, w10, w11, w12, w13, w14, w15] Q8 ∧ (∀ v9 : ab_Ob, ∀ v10 : ab_Ob, Q8 (some (ab_O 5)) [v9, w1, w2, w3, w4, v10, w6, w7, w8, w9, w10, w11, w12, w13, w14, w15] → (∃ Q11 : Option ab_V → List ab_Ob → Prop, ab_Ct d 0 0 mX1_least [ab_O 0, ab_I a1, ab_I a2] [v10] Q11 ∧ (∀ r12 : Int, Q11 (some (ab_I r12)) [v10] → (∃ Q13 : Option ab_V → List ab_Ob → Prop, ab_Ct d 0 0 mX8_grant [ab_O 0, ab_I r12] [v9, w1, w2, w3, w4, v10, w6, w7, w8, w9, w10, w11, w12, w13, w14, w15] Q13 ∧ (∀ r14 : Int, ∀ v15 : ab_Ob, Q13 (some (ab_I r14)) [v15, w1, w2, w3, w4, v10, w6, w7, w8, w9, w10, w11, w12, w13, w14, w15] → Post (some (ab_I r14)) [v15, w1, w2, w3, w4, v10, w6, w7, w8, w9, w10, w11, w12, w13, w14, w15]))))))))))) :
    ab_J x 0 [some (ab_O 0), some (ab_I a1), some (ab_I a2)] [] [w0, w1, w2, w3, w4, w5, w6, w7, w8, w9, w10, w11, w12, w13, w14, w15] kc ks := ab_go hx kX8_breaks.2 18 [] 0 h
def mX8_head : ab_M := ((yX8_head, cX8_head, 3, (some .int)), ([8, 4, 5, 5, 0, 1, 2, 7, 6, 1, 7, 7, 7, 7, 3, 3], [(0, 0), (0, 1), (0, 2), (0, 3), (0, 4), (0, 5), (0, 6), (0, 7), (0, 8), (0, 9), (0, 10), (0, 11), (0, 12), (0, 13), (0, 14), (0, 15)], [true, false, false, false, false, true, false, false, false, false, false, false, false, false, false, false], true, true, 0), (false, 8, 2))
def rX8_head : List ab_R := [(0, .aload_n 0, 1, 0, 0, 0, [], none),
  (1, .iload_n 1, 1, 0, 0, 0, [], none),
  (2, .iload_n 2, 1, 0, 0, 0, [], none),
  (3, .invokevirtual 184, 3, 0, 0, 0, [], some mX8_hasSpan),
  (6, .ifCond .eq 19, 3, 0, 0, 0, [25], none),
  (9, .aload_n 0, 1, 0, 0, 0, [], none),
  (10, .aload_n 0, 1, 0, 0, 0, [], none),
  (11, .invokevirtual 188, 3, 0, 0, 0, [], some mX8_freshSpans),
  (14, .iload_n 1, 1, 0, 0, 0, [], none),
  (15, .iload_n 2, 1, 0, 0, 0, [], none),
  (16, .invokevirtual 195, 3, 0, 0, 0, [], some mX1_bestHead),
  (19, .invokevirtual 124, 3, 0, 0, 0, [], some mX8_grant),
  (22, .goto 8, 3, 0, 0, 0, [30], none),
  (25, .aload_n 0, 1, 0, 0, 0, [], none),
  (26, .iconst 1, 1, 0, 0, 0, [], none),
  (27, .invokevirtual 101, 3, 0, 0, 0, [], some mX8_refuse),
  (30, .ireturn, 1, 0, 0, 0, [], none)]
set_option maxRecDepth 100000 in
theorem kX8_head : ab_def_ok mX8_head rX8_head := ⟨ab_mok_of 763 101 761 762 (by decide +kernel), [0, 0, 0, 751, 0, 0, 0, 660, 0, 0, 764, 620, 0, 0, 0, 455, 0], by decide +kernel⟩
set_option maxRecDepth 100000 in
theorem vX8_head_0 {x : ab_Cx} {d mc ms : Nat} {Post : Option ab_V → List ab_Ob → Prop} (hx : ab_At x mX8_head d mc ms Post) (a1 a2 : Int) (w0 w1 w2 w3 w4 w5 w6 w7 w8 w9 w10 w11 w12 w13 w14 w15 : ab_Ob) (kc ks : Nat)
    (h : (∃ Q1 : Option ab_V → List ab_Ob → Prop, ab_Ct d 0 0 mX8_hasSpan [ab_O 0, ab_I a1, ab_I a2] [w0, w1, w2, w3, w4, w5, w6, w7, w8, w9, w10, w11, w12, w13, w14, w15] Q1 ∧ (∀ r2 : Int, Q1 (some (ab_I r2)) [w0, w1, w2, w3, w4, w5, w6, w7, w8, w9, w10, w11, w12, w13, w14, w15] → ((r2 = 0 → (∃ Q3 : Option ab_V → List ab_Ob → Prop, ab_Ct d 0 0 mX8_refuse [ab_O 0, ab_I 1] [w0, w1, w2, w3, w4, w5, w6, w7, w8, w9, w10, w11, w12, w13, w14, w15] Q3 ∧ (∀ r4 : Int, ∀ v5 : ab_Ob, Q3 (some (ab_I r4)) [v5, w1, w2, w3, w4, w5, w6, w7, w8, w9, w10, w11, w12, w13, w14, w15] → Post (some (ab_I r4)) [v5, w1, w2, w3, w4, w5, w6, w7, w8, w9, w10, w11, w12, w13, w14, w15]))) ∧ (¬ r2 = 0 → (∃ mc6 ms7 : Nat, (kc + mc6 ≤ mc ∧ ks + ms7 ≤ ms) ∧ ∃ Q8 : Option ab_V → List ab_Ob → Prop, ab_Ct d mc6 ms7 mX8_freshSpans [ab_O 0] [w0, w1, w2, w3, w4, w5, w6, w7, w8, w9, w10, w11, w12, w13, w14, w15] Q8 ∧ (∀ v9 : ab_Ob, ∀ v10 : ab_Ob, Q8 (some (ab_O 5)) [v9, w1, w2, w3, w4, v10, w6, w7, w8, w9, w10, w11, w12, w13, w14, w15] → (∃ Q11 : Option ab_V → List ab_Ob → Prop, ab_Ct d 0 0 mX1_bestHead [ab_O 0, ab_I a1, ab_I a2] [v10] Q11 ∧ (∀ r12 : Int, Q11 (some (ab_I r12)) [v10] → (∃ Q13 : Option ab_V → List ab_Ob → Prop, ab_Ct d 0 0 mX8_grant [ab_O 0, ab_I r12] [v9, w1, w2, w3, w4, v10, w6, w7, w8, w9, w10, w11, w12, w13, w14, w15] Q13 ∧ (∀ r14 : Int, ∀ v15 : ab_Ob, Q13 (some (ab_I r14)) [v15, w1, w2, w3, w4, v10, w6, w7, w8, w9, w10, w11, w12, w13, w14, w15] → Post (some (ab_I r14)) [v15, w1, w2, w3, w4, v10, w6, w7, w8, w9, w10, w11, w12, w13, w14, w15]))))))))))) :
    ab_J x 0 [some (ab_O 0), some (ab_I a1), some (ab_I a2)] [] [w0, w1, w2, w3, w4, w5, w6, w7, w8, w9, w10, w11, w12, w13, w14, w15] kc ks := ab_go hx kX8_head.2 18 [] 0 h
def mX8_split : ab_M := ((yX8_split, cX8_split, 4, (some .int)), ([8, 4, 5, 5, 0, 1, 2, 7, 6, 1, 7, 7, 7, 7, 3, 3], [(0, 0), (0, 1), (0, 2), (0, 3), (0, 4), (0, 5), (0, 6), (0, 7), (0, 8), (0, 9), (0, 10), (0, 11), (0, 12), (0, 13), (0, 14), (0, 15)], [true, false, false, false, false, true, false, false, false, false, false, false, false, false, false, false], true, true, 0), (false, 8, 2))
def rX8_split : List ab_R := [(0, .aload_n 0, 1, 0, 0, 0, [], none),
  (1, .iload_n 1, 1, 0, 0, 0, [], none),
  (2, .iload_n 2, 1, 0, 0, 0, [], none),
  (3, .invokevirtual 184, 3, 0, 0, 0, [], some mX8_hasSpan),
  (6, .ifCond .ne 9, 3, 0, 0, 0, [15], none),
  (9, .aload_n 0, 1, 0, 0, 0, [], none),
  (10, .iconst 1, 1, 0, 0, 0, [], none),
  (11, .invokevirtual 101, 3, 0, 0, 0, [], some mX8_refuse),
  (14, .ireturn, 1, 0, 0, 0, [], none),
  (15, .iload_n 1, 1, 0, 0, 0, [], none),
  (16, .iload_n 2, 1, 0, 0, 0, [], none),
  (17, .if_icmp .ne 10, 3, 0, 0, 0, [27], none),
  (20, .aload_n 0, 1, 0, 0, 0, [], none),
  (21, .bipush (-2), 2, 0, 0, 0, [], none),
  (23, .invokevirtual 124, 3, 0, 0, 0, [], some mX8_grant),
  (26, .ireturn, 1, 0, 0, 0, [], none),
  (27, .aload_n 0, 1, 0, 0, 0, [], none),
  (28, .invokevirtual 188, 3, 0, 0, 0, [], some mX8_freshSpans),
  (31, .astore_n 3, 1, 0, 0, 0, [], none),
  (32, .aload_n 0, 1, 0, 0, 0, [], none),
  (33, .aload_n 3, 1, 0, 0, 0, [], none),
  (34, .iload_n 1, 1, 0, 0, 0, [], none),
  (35, .iload_n 2, 1, 0, 0, 0, [], none),
  (36, .aload_n 3, 1, 0, 0, 0, [], none),
  (37, .iload_n 1, 1, 0, 0, 0, [], none),
  (38, .iload_n 2, 1, 0, 0, 0, [], none),
  (39, .invokevirtual 195, 3, 0, 0, 0, [], some mX1_bestHead),
  (42, .invokevirtual 198, 3, 0, 0, 0, [], some mX1_bestSplit),
  (45, .invokevirtual 124, 3, 0, 0, 0, [], some mX8_grant),
  (48, .ireturn, 1, 0, 0, 0, [], none)]
set_option maxRecDepth 100000 in
theorem kX8_split : ab_def_ok mX8_split rX8_split := ⟨ab_mok_of 768 101 766 767 (by decide +kernel), [0, 0, 0, 751, 0, 0, 0, 455, 0, 0, 0, 0, 0, 0, 620, 0, 0, 660, 0, 0, 0, 0, 0, 0, 0, 0, 764, 769, 620, 0], by decide +kernel⟩
set_option maxRecDepth 100000 in
theorem vX8_split_0 {x : ab_Cx} {d mc ms : Nat} {Post : Option ab_V → List ab_Ob → Prop} (hx : ab_At x mX8_split d mc ms Post) (a1 a2 : Int) (w0 w1 w2 w3 w4 w5 w6 w7 w8 w9 w10 w11 w12 w13 w14 w15 : ab_Ob) (kc ks : Nat)
    (h : (∃ Q1 : Option ab_V → List ab_Ob → Prop, ab_Ct d 0 0 mX8_hasSpan [ab_O 0, ab_I a1, ab_I a2] [w0, w1, w2, w3, w4, w5, w6, w7, w8, w9, w10, w11, w12, w13, w14, w15] Q1 ∧ (∀ r2 : Int, Q1 (some (ab_I r2)) [w0, w1, w2, w3, w4, w5, w6, w7, w8, w9, w10, w11, w12, w13, w14, w15] → ((¬ r2 = 0 → ((¬ a1 = a2 → (∃ mc3 ms4 : Nat, (kc + mc3 ≤ mc ∧ ks + ms4 ≤ ms) ∧ ∃ Q5 : Option ab_V → List ab_Ob → Prop, ab_Ct d mc3 ms4 mX8_freshSpans [ab_O 0] [w0, w1, w2, w3, w4, w5, w6, w7, w8, w9, w10, w11, w12, w13, w14, w15] Q5 ∧ (∀ v6 : ab_Ob, ∀ v7 : ab_Ob, Q5 (some (ab_O 5)) [v6, w1, w2, w3, w4, v7, w6, w7, w8, w9, w10, w11, w12, w13, w14, w15] → (∃ Q8 : Option ab_V → List ab_Ob → Prop, ab_Ct d 0 0 mX1_bestHead [ab_O 0, ab_I a1, ab_I a2] [v7] Q8 ∧ (∀ r9 : Int, Q8 (some (ab_I r9)) [v7] → (∃ Q10 : Option ab_V → List ab_Ob → Prop, ab_Ct d 0 0 mX1_bestSplit [ab_O 0, ab_I a1, ab_I a2, ab_I r9] [v7] Q10 ∧ (∀ r11 : Int, Q10 (some (ab_I r11)) [v7] → (∃ Q12 : Option ab_V → List ab_Ob → Prop, ab_Ct d 0 0 mX8_grant [ab_O 0, ab_I r11] [v6, w1, w2, w3, w4, v7, w6, w7, w8, w9, w10, w11, w12, w13, w14, w15] Q12 ∧ (∀ r13 : Int, ∀ v14 : ab_Ob, Q12 (some (ab_I r13)) [v14, w1, w2, w3, w4, v7, w6, w7, w8, w9, w10, w11, w12, w13, w14, w15] → Post (some (ab_I r13)) [v14, w1, w2, w3, w4, v7, w6, w7, w8, w9, w10, w11, w12, w13, w14, w15]))))))))) ∧ (a1 = a2 → (∃ Q15 : Option ab_V → List ab_Ob → Prop, ab_Ct d 0 0 mX8_grant [ab_O 0, ab_I (-2)] [w0, w1, w2, w3, w4, w5, w6, w7, w8, w9, w10, w11, w12, w13, w14, w15] Q15 ∧ (∀ r16 : Int, ∀ v17 : ab_Ob, Q15 (some (ab_I r16)) [v17, w1, w2, w3, w4, w5, w6, w7, w8, w9, w10, w11, w12, w13, w14, w15] → Post (some (ab_I r16)) [v17, w1, w2, w3, w4, w5, w6, w7, w8, w9, w10, w11, w12, w13, w14, w15]))))) ∧ (r2 = 0 → (∃ Q18 : Option ab_V → List ab_Ob → Prop, ab_Ct d 0 0 mX8_refuse [ab_O 0, ab_I 1] [w0, w1, w2, w3, w4, w5, w6, w7, w8, w9, w10, w11, w12, w13, w14, w15] Q18 ∧ (∀ r19 : Int, ∀ v20 : ab_Ob, Q18 (some (ab_I r19)) [v20, w1, w2, w3, w4, w5, w6, w7, w8, w9, w10, w11, w12, w13, w14, w15] → Post (some (ab_I r19)) [v20, w1, w2, w3, w4, w5, w6, w7, w8, w9, w10, w11, w12, w13, w14, w15]))))))) :
    ab_J x 0 [some (ab_O 0), some (ab_I a1), some (ab_I a2), none] [] [w0, w1, w2, w3, w4, w5, w6, w7, w8, w9, w10, w11, w12, w13, w14, w15] kc ks := ab_go hx kX8_split.2 26 [] 0 h
def mX8_breaksBy : ab_M := ((yX8_breaksBy, cX8_breaksBy, 4, (some .int)), ([8, 4, 5, 5, 0, 1, 2, 7, 6, 1, 7, 7, 7, 7, 3, 3], [(0, 0), (0, 1), (0, 2), (0, 3), (0, 4), (0, 5), (0, 6), (0, 7), (0, 8), (0, 9), (0, 10), (0, 11), (0, 12), (0, 13), (0, 14), (0, 15)], [true, false, false, false, false, true, false, false, false, false, false, false, false, false, false, false], true, true, 0), (false, 8, 3))
def rX8_breaksBy : List ab_R := [(0, .aload_n 0, 1, 0, 0, 0, [], none),
  (1, .iload_n 1, 1, 0, 0, 0, [], none),
  (2, .iload_n 2, 1, 0, 0, 0, [], none),
  (3, .invokevirtual 184, 3, 0, 0, 0, [], some mX8_hasSpan),
  (6, .ifCond .eq 13, 3, 0, 0, 0, [19], none),
  (9, .iload_n 3, 1, 0, 0, 0, [], none),
  (10, .iload_n 1, 1, 0, 0, 0, [], none),
  (11, .if_icmp .lt 8, 3, 0, 0, 0, [19], none),
  (14, .iload_n 3, 1, 0, 0, 0, [], none),
  (15, .iload_n 2, 1, 0, 0, 0, [], none),
  (16, .if_icmp .le 9, 3, 0, 0, 0, [25], none),
  (19, .aload_n 0, 1, 0, 0, 0, [], none),
  (20, .iconst 1, 1, 0, 0, 0, [], none),
  (21, .invokevirtual 101, 3, 0, 0, 0, [], some mX8_refuse),
  (24, .ireturn, 1, 0, 0, 0, [], none),
  (25, .aload_n 0, 1, 0, 0, 0, [], none),
  (26, .aload_n 0, 1, 0, 0, 0, [], none),
  (27, .invokevirtual 188, 3, 0, 0, 0, [], some mX8_freshSpans),
  (30, .iload_n 1, 1, 0, 0, 0, [], none),
  (31, .iload_n 2, 1, 0, 0, 0, [], none),
  (32, .iload_n 3, 1, 0, 0, 0, [], none),
  (33, .invokevirtual 202, 3, 0, 0, 0, [], some mX1_cell),
  (36, .invokevirtual 124, 3, 0, 0, 0, [], some mX8_grant),
  (39, .ireturn, 1, 0, 0, 0, [], none)]
set_option maxRecDepth 100000 in
theorem kX8_breaksBy : ab_def_ok mX8_breaksBy rX8_breaksBy := ⟨ab_mok_of 773 101 771 772 (by decide +kernel), [0, 0, 0, 751, 0, 0, 0, 0, 0, 0, 0, 0, 0, 455, 0, 0, 0, 660, 0, 0, 0, 774, 620, 0], by decide +kernel⟩
set_option maxRecDepth 100000 in
theorem vX8_breaksBy_0 {x : ab_Cx} {d mc ms : Nat} {Post : Option ab_V → List ab_Ob → Prop} (hx : ab_At x mX8_breaksBy d mc ms Post) (a1 a2 a3 : Int) (w0 w1 w2 w3 w4 w5 w6 w7 w8 w9 w10 w11 w12 w13 w14 w15 : ab_Ob) (kc ks : Nat)
    (h : (∃ Q1 : Option ab_V → List ab_Ob → Prop, ab_Ct d 0 0 mX8_hasSpan [ab_O 0, ab_I a1, ab_I a2] [w0, w1, w2, w3, w4, w5, w6, w7, w8, w9, w10, w11, w12, w13, w14, w15] Q1 ∧ (∀ r2 : Int, Q1 (some (ab_I r2)) [w0, w1, w2, w3, w4, w5, w6, w7, w8, w9, w10, w11, w12, w13, w14, w15] → ((r2 = 0 → (∃ Q3 : Option ab_V → List ab_Ob → Prop, ab_Ct d 0 0 mX8_refuse [ab_O 0, ab_I 1] [w0, w1, w2, w3, w4, w5, w6, w7, w8, w9, w10, w11, w12, w13, w14, w15] Q3 ∧ (∀ r4 : Int, ∀ v5 : ab_Ob, Q3 (some (ab_I r4)) [v5, w1, w2, w3, w4, w5, w6, w7, w8, w9, w10, w11, w12, w13, w14, w15] → Post (some (ab_I r4)) [v5, w1, w2, w3, w4, w5, w6, w7, w8, w9, w10, w11, w12, w13, w14, w15]))) ∧ (¬ r2 = 0 → ((a3 < a1 → (∃ Q6 : Option ab_V → List ab_Ob → Prop, ab_Ct d 0 0 mX8_refuse [ab_O 0, ab_I 1] [w0, w1, w2, w3, w4, w5, w6, w7, w8, w9, w10, w11, w12, w13, w14, w15] Q6 ∧ (∀ r7 : Int, ∀ v8 : ab_Ob, Q6 (some (ab_I r7)) [v8, w1, w2, w3, w4, w5, w6, w7, w8, w9, w10, w11, w12, w13, w14, w15] → Post (some (ab_I r7)) [v8, w1, w2, w3, w4, w5, w6, w7, w8, w9, w10, w11, w12, w13, w14, w15]))) ∧ (¬ a3 < a1 → ((a3 ≤ a2 → (∃ mc9 ms10 : Nat, (kc + mc9 ≤ mc ∧ ks + ms10 ≤ ms) ∧ ∃ Q11 : Option ab_V → List ab_Ob → Prop, ab_Ct d mc9 ms10 mX8_freshSpans [ab_O 0] [w0, w1, w2, w3, w4, w5, w6, w7, w8, w9, w10, w11, w12, w13, w14, w15] Q11 ∧ (∀ v12 : ab_Ob, ∀ v13 : ab_Ob, Q11 (some (ab_O 5)) [v12, w1, w2, w3, w4, v13, w6, w7, w8, w9, w10, w11, w12, w13, w14, w15] → (∃ Q14 : Option ab_V → List ab_Ob → Prop, ab_Ct d 0 0 mX1_cell [ab_O 0, ab_I a1, ab_I a2, ab_I a3] [v13] Q14 ∧ (∀ r15 : Int, Q14 (some (ab_I r15)) [v13] → (∃ Q16 : Option ab_V → List ab_Ob → Prop, ab_Ct d 0 0 mX8_grant [ab_O 0, ab_I r15] [v12, w1, w2, w3, w4, v13, w6, w7, w8, w9, w10, w11, w12, w13, w14, w15] Q16 ∧ (∀ r17 : Int, ∀ v18 : ab_Ob, Q16 (some (ab_I r17)) [v18, w1, w2, w3, w4, v13, w6, w7, w8, w9, w10, w11, w12, w13, w14, w15] → Post (some (ab_I r17)) [v18, w1, w2, w3, w4, v13, w6, w7, w8, w9, w10, w11, w12, w13, w14, w15]))))))) ∧ (¬ a3 ≤ a2 → (∃ Q19 : Option ab_V → List ab_Ob → Prop, ab_Ct d 0 0 mX8_refuse [ab_O 0, ab_I 1] [w0, w1, w2, w3, w4, w5, w6, w7, w8, w9, w10, w11, w12, w13, w14, w15] Q19 ∧ (∀ r20 : Int, ∀ v21 : ab_Ob, Q19 (some (ab_I r20)) [v21, w1, w2, w3, w4, w5, w6, w7, w8, w9, w10, w11, w12, w13, w14, w15] → Post (some (ab_I r20)) [v21, w1, w2, w3, w4, w5, w6, w7, w8, w9, w10, w11, w12, w13, w14, w15]))))))))))) :
    ab_J x 0 [some (ab_O 0), some (ab_I a1), some (ab_I a2), some (ab_I a3)] [] [w0, w1, w2, w3, w4, w5, w6, w7, w8, w9, w10, w11, w12, w13, w14, w15] kc ks := ab_go hx kX8_breaksBy.2 24 [] 0 h
def mX8_ways : ab_M := ((yX8_ways, cX8_ways, 4, (some .long)), ([8, 4, 5, 5, 0, 1, 2, 7, 6, 1, 7, 7, 7, 7, 3, 3], [(0, 0), (0, 1), (0, 2), (0, 3), (0, 4), (0, 5), (0, 6), (0, 7), (0, 8), (0, 9), (0, 10), (0, 11), (0, 12), (0, 13), (0, 14), (0, 15)], [true, false, false, false, false, true, true, false, false, false, false, false, false, false, false, false], true, true, 0), (false, 8, 2))
def rX8_ways : List ab_R := [(0, .aload_n 0, 1, 0, 0, 0, [], none),
  (1, .iload_n 1, 1, 0, 0, 0, [], none),
  (2, .iload_n 2, 1, 0, 0, 0, [], none),
  (3, .invokevirtual 184, 3, 0, 0, 0, [], some mX8_hasSpan),
  (6, .ifCond .ne 10, 3, 0, 0, 0, [16], none),
  (9, .aload_n 0, 1, 0, 0, 0, [], none),
  (10, .iconst 1, 1, 0, 0, 0, [], none),
  (11, .invokevirtual 101, 3, 0, 0, 0, [], some mX8_refuse),
  (14, .i2l, 1, 0, 0, 0, [], none),
  (15, .lreturn, 1, 0, 0, 0, [], none),
  (16, .aload_n 0, 1, 0, 0, 0, [], none),
  (17, .iconst 0, 1, 0, 0, 0, [], none),
  (18, .putfield 9, 3, 8, 0, 0, [], none),
  (21, .aload_n 0, 1, 0, 0, 0, [], none),
  (22, .invokevirtual 188, 3, 0, 0, 0, [], some mX8_freshSpans),
  (25, .astore_n 3, 1, 0, 0, 0, [], none),
  (26, .aload_n 0, 1, 0, 0, 0, [], none),
  (27, .getfield 52, 3, 8, 7, 0, [], none),
  (30, .ifCond .ne 16, 3, 0, 0, 0, [46], none),
  (33, .aload_n 0, 1, 0, 0, 0, [], none),
  (34, .getfield 48, 3, 8, 6, 0, [], none),
  (37, .aload_n 3, 1, 0, 0, 0, [], none),
  (38, .invokevirtual 205, 3, 0, 0, 0, [], some mX2_fill),
  (41, .aload_n 0, 1, 0, 0, 0, [], none),
  (42, .iconst 1, 1, 0, 0, 0, [], none),
  (43, .putfield 52, 3, 8, 7, 0, [], none),
  (46, .aload_n 0, 1, 0, 0, 0, [], none),
  (47, .getfield 48, 3, 8, 6, 0, [], none),
  (50, .aload_n 3, 1, 0, 0, 0, [], none),
  (51, .iload_n 1, 1, 0, 0, 0, [], none),
  (52, .iload_n 2, 1, 0, 0, 0, [], none),
  (53, .invokevirtual 209, 3, 0, 0, 0, [], some mX2_ofBest),
  (56, .ldc2_w 213, 3, 0, 1000000000000, 0, [], none),
  (59, .invokestatic 215, 3, 0, 0, 13, [], none),
  (62, .lreturn, 1, 0, 0, 0, [], none)]
set_option maxRecDepth 100000 in
theorem kX8_ways : ab_def_ok mX8_ways rX8_ways := ⟨ab_mok_of 778 101 776 777 (by decide +kernel), [0, 0, 0, 751, 0, 0, 0, 455, 0, 0, 0, 0, 391, 0, 660, 0, 0, 398, 0, 0, 397, 0, 779, 0, 0, 398, 0, 397, 0, 0, 0, 799, 804, 805, 0], by decide +kernel⟩
set_option maxRecDepth 100000 in
theorem vX8_ways_0 {x : ab_Cx} {d mc ms : Nat} {Post : Option ab_V → List ab_Ob → Prop} (hx : ab_At x mX8_ways d mc ms Post) (a1 a2 : Int) (w0 w1 w2 w3 w4 w5 w6 w7 w8 w9 w10 w11 w12 w13 w14 w15 : ab_Ob) (kc ks : Nat)
    (h : (∃ Q1 : Option ab_V → List ab_Ob → Prop, ab_Ct d 0 0 mX8_hasSpan [ab_O 0, ab_I a1, ab_I a2] [w0, w1, w2, w3, w4, w5, w6, w7, w8, w9, w10, w11, w12, w13, w14, w15] Q1 ∧ (∀ r2 : Int, Q1 (some (ab_I r2)) [w0, w1, w2, w3, w4, w5, w6, w7, w8, w9, w10, w11, w12, w13, w14, w15] → ((¬ r2 = 0 → (∃ mc3 ms4 : Nat, (kc + mc3 ≤ mc ∧ ks + ms4 ≤ ms) ∧ ∃ Q5 : Option ab_V → List ab_Ob → Prop, ab_Ct d mc3 ms4 mX8_freshSpans [ab_O 0] [(ab_pf w0 0 0), w1, w2, w3, w4, w5, w6, w7, w8, w9, w10, w11, w12, w13, w14, w15] Q5 ∧ (∀ v6 : ab_Ob, ∀ v7 : ab_Ob, Q5 (some (ab_O 5)) [v6, w1, w2, w3, w4, v7, w6, w7, w8, w9, w10, w11, w12, w13, w14, w15] → ((¬ (v6.1 7) = 0 → (∃ Q8 : Option ab_V → List ab_Ob → Prop, ab_Ct d 0 0 mX2_ofBest [ab_O 0, ab_O 1, ab_I a1, ab_I a2] [w6, v7] Q8 ∧ (∀ r9 : Int, Q8 (some (ab_L r9)) [w6, v7] → Post (some (ab_L (if 1000000000000 < r9 then 1000000000000 else r9))) [v6, w1, w2, w3, w4, v7, w6, w7, w8, w9, w10, w11, w12, w13, w14, w15]))) ∧ ((v6.1 7) = 0 → (∃ mc10 ms11 : Nat, ((kc + mc3) + mc10 ≤ mc ∧ (ks + ms4) + ms11 ≤ ms) ∧ ∃ Q12 : Option ab_V → List ab_Ob → Prop, ab_Ct d mc10 ms11 mX2_fill [ab_O 0, ab_O 1] [w6, v7] Q12 ∧ (∀ v13 : ab_Ob, Q12 none [v13, v7] → (((1 : Int) = 0 ∨ (1 : Int) = 1) ∧ (∃ Q14 : Option ab_V → List ab_Ob → Prop, ab_Ct d 0 0 mX2_ofBest [ab_O 0, ab_O 1, ab_I a1, ab_I a2] [v13, v7] Q14 ∧ (∀ r15 : Int, Q14 (some (ab_L r15)) [v13, v7] → Post (some (ab_L (if 1000000000000 < r15 then 1000000000000 else r15))) [(ab_pf v6 7 1), w1, w2, w3, w4, v7, v13, w7, w8, w9, w10, w11, w12, w13, w14, w15])))))))))) ∧ (r2 = 0 → (∃ Q16 : Option ab_V → List ab_Ob → Prop, ab_Ct d 0 0 mX8_refuse [ab_O 0, ab_I 1] [w0, w1, w2, w3, w4, w5, w6, w7, w8, w9, w10, w11, w12, w13, w14, w15] Q16 ∧ (∀ r17 : Int, ∀ v18 : ab_Ob, Q16 (some (ab_I r17)) [v18, w1, w2, w3, w4, w5, w6, w7, w8, w9, w10, w11, w12, w13, w14, w15] → Post (some (ab_L r17)) [v18, w1, w2, w3, w4, w5, w6, w7, w8, w9, w10, w11, w12, w13, w14, w15]))))))) :
    ab_J x 0 [some (ab_O 0), some (ab_I a1), some (ab_I a2), none] [] [w0, w1, w2, w3, w4, w5, w6, w7, w8, w9, w10, w11, w12, w13, w14, w15] kc ks := ab_go hx kX8_ways.2 34 [] 0 h
def mX8_splitCost : ab_M := ((yX8_splitCost, cX8_splitCost, 5, (some .int)), ([8, 4, 5, 5, 0, 1, 2, 7, 6, 1, 7, 7, 7, 7, 3, 3], [(0, 0), (0, 1), (0, 2), (0, 3), (0, 4), (0, 5), (0, 6), (0, 7), (0, 8), (0, 9), (0, 10), (0, 11), (0, 12), (0, 13), (0, 14), (0, 15)], [true, false, false, false, false, true, false, false, false, false, false, false, false, false, false, false], true, true, 0), (false, 8, 3))
def rX8_splitCost : List ab_R := [(0, .aload_n 0, 1, 0, 0, 0, [], none),
  (1, .iload_n 1, 1, 0, 0, 0, [], none),
  (2, .iload_n 2, 1, 0, 0, 0, [], none),
  (3, .invokevirtual 184, 3, 0, 0, 0, [], some mX8_hasSpan),
  (6, .ifCond .eq 13, 3, 0, 0, 0, [19], none),
  (9, .iload_n 3, 1, 0, 0, 0, [], none),
  (10, .iload_n 1, 1, 0, 0, 0, [], none),
  (11, .if_icmp .lt 8, 3, 0, 0, 0, [19], none),
  (14, .iload_n 3, 1, 0, 0, 0, [], none),
  (15, .iload_n 2, 1, 0, 0, 0, [], none),
  (16, .if_icmp .lt 9, 3, 0, 0, 0, [25], none),
  (19, .aload_n 0, 1, 0, 0, 0, [], none),
  (20, .iconst 1, 1, 0, 0, 0, [], none),
  (21, .invokevirtual 101, 3, 0, 0, 0, [], some mX8_refuse),
  (24, .ireturn, 1, 0, 0, 0, [], none),
  (25, .aload_n 0, 1, 0, 0, 0, [], none),
  (26, .invokevirtual 188, 3, 0, 0, 0, [], some mX8_freshSpans),
  (29, .astore 4, 2, 0, 0, 0, [], none),
  (31, .aload_n 0, 1, 0, 0, 0, [], none),
  (32, .aload 4, 2, 0, 0, 0, [], none),
  (34, .iload_n 1, 1, 0, 0, 0, [], none),
  (35, .iload_n 2, 1, 0, 0, 0, [], none),
  (36, .iload_n 3, 1, 0, 0, 0, [], none),
  (37, .invokevirtual 221, 3, 0, 0, 0, [], some mX1_leastSplitAt),
  (40, .aload 4, 2, 0, 0, 0, [], none),
  (42, .iload_n 1, 1, 0, 0, 0, [], none),
  (43, .iload_n 2, 1, 0, 0, 0, [], none),
  (44, .invokevirtual 192, 3, 0, 0, 0, [], some mX1_least),
  (47, .isub, 1, 0, 0, 0, [], none),
  (48, .invokevirtual 124, 3, 0, 0, 0, [], some mX8_grant),
  (51, .ireturn, 1, 0, 0, 0, [], none)]
set_option maxRecDepth 100000 in
theorem kX8_splitCost : ab_def_ok mX8_splitCost rX8_splitCost := ⟨ab_mok_of 811 101 809 810 (by decide +kernel), [0, 0, 0, 751, 0, 0, 0, 0, 0, 0, 0, 0, 0, 455, 0, 0, 660, 0, 0, 0, 0, 0, 0, 812, 0, 0, 0, 755, 0, 620, 0], by decide +kernel⟩
set_option maxRecDepth 100000 in
theorem vX8_splitCost_0 {x : ab_Cx} {d mc ms : Nat} {Post : Option ab_V → List ab_Ob → Prop} (hx : ab_At x mX8_splitCost d mc ms Post) (a1 a2 a3 : Int) (w0 w1 w2 w3 w4 w5 w6 w7 w8 w9 w10 w11 w12 w13 w14 w15 : ab_Ob) (kc ks : Nat)
    (h : (∃ Q1 : Option ab_V → List ab_Ob → Prop, ab_Ct d 0 0 mX8_hasSpan [ab_O 0, ab_I a1, ab_I a2] [w0, w1, w2, w3, w4, w5, w6, w7, w8, w9, w10, w11, w12, w13, w14, w15] Q1 ∧ (∀ r2 : Int, Q1 (some (ab_I r2)) [w0, w1, w2, w3, w4, w5, w6, w7, w8, w9, w10, w11, w12, w13, w14, w15] → ((r2 = 0 → (∃ Q3 : Option ab_V → List ab_Ob → Prop, ab_Ct d 0 0 mX8_refuse [ab_O 0, ab_I 1] [w0, w1, w2, w3, w4, w5, w6, w7, w8, w9, w10, w11, w12, w13, w14, w15] Q3 ∧ (∀ r4 : Int, ∀ v5 : ab_Ob, Q3 (some (ab_I r4)) [v5, w1, w2, w3, w4, w5, w6, w7, w8, w9, w10, w11, w12, w13, w14, w15] → Post (some (ab_I r4)) [v5, w1, w2, w3, w4, w5, w6, w7, w8, w9, w10, w11, w12, w13, w14, w15]))) ∧ (¬ r2 = 0 → ((a3 < a1 → (∃ Q6 : Option ab_V → List ab_Ob → Prop, ab_Ct d 0 0 mX8_refuse [ab_O 0, ab_I 1] [w0, w1, w2, w3, w4, w5, w6, w7, w8, w9, w10, w11, w12, w13, w14, w15] Q6 ∧ (∀ r7 : Int, ∀ v8 : ab_Ob, Q6 (some (ab_I r7)) [v8, w1, w2, w3, w4, w5, w6, w7, w8, w9, w10, w11, w12, w13, w14, w15] → Post (some (ab_I r7)) [v8, w1, w2, w3, w4, w5, w6, w7, w8, w9, w10, w11, w12, w13, w14, w15]))) ∧ (¬ a3 < a1 → ((a3 < a2 → (∃ mc9 ms10 : Nat, (kc + mc9 ≤ mc ∧ ks + ms10 ≤ ms) ∧ ∃ Q11 : Option ab_V → List ab_Ob → Prop, ab_Ct d mc9 ms10 mX8_freshSpans [ab_O 0] [w0, w1, w2, w3, w4, w5, w6, w7, w8, w9, w10, w11, w12, w13, w14, w15] Q11 ∧ (∀ v12 : ab_Ob, ∀ v13 : ab_Ob, Q11 (some (ab_O 5)) [v12, w1, w2, w3, w4, v13, w6, w7, w8, w9, w10, w11, w12, w13, w14, w15] → (∃ Q14 : Option ab_V → List ab_Ob → Prop, ab_Ct d 0 0 mX1_leastSplitAt [ab_O 0, ab_I a1, ab_I a2, ab_I a3] [v13] Q14 ∧ (∀ r15 : Int, Q14 (some (ab_I r15)) [v13] → (∃ Q16 : Option ab_V → List ab_Ob → Prop, ab_Ct d 0 0 mX1_least [ab_O 0, ab_I a1, ab_I a2] [v13] Q16 ∧ (∀ r17 : Int, Q16 (some (ab_I r17)) [v13] → ((-2147483648 ≤ r15 - r17 ∧ r15 - r17 ≤ 2147483647) ∧ (∃ Q18 : Option ab_V → List ab_Ob → Prop, ab_Ct d 0 0 mX8_grant [ab_O 0, ab_I (r15 - r17)] [v12, w1, w2, w3, w4, v13, w6, w7, w8, w9, w10, w11, w12, w13, w14, w15] Q18 ∧ (∀ r19 : Int, ∀ v20 : ab_Ob, Q18 (some (ab_I r19)) [v20, w1, w2, w3, w4, v13, w6, w7, w8, w9, w10, w11, w12, w13, w14, w15] → Post (some (ab_I r19)) [v20, w1, w2, w3, w4, v13, w6, w7, w8, w9, w10, w11, w12, w13, w14, w15])))))))))) ∧ (¬ a3 < a2 → (∃ Q21 : Option ab_V → List ab_Ob → Prop, ab_Ct d 0 0 mX8_refuse [ab_O 0, ab_I 1] [w0, w1, w2, w3, w4, w5, w6, w7, w8, w9, w10, w11, w12, w13, w14, w15] Q21 ∧ (∀ r22 : Int, ∀ v23 : ab_Ob, Q21 (some (ab_I r22)) [v23, w1, w2, w3, w4, w5, w6, w7, w8, w9, w10, w11, w12, w13, w14, w15] → Post (some (ab_I r22)) [v23, w1, w2, w3, w4, w5, w6, w7, w8, w9, w10, w11, w12, w13, w14, w15]))))))))))) :
    ab_J x 0 [some (ab_O 0), some (ab_I a1), some (ab_I a2), some (ab_I a3), none] [] [w0, w1, w2, w3, w4, w5, w6, w7, w8, w9, w10, w11, w12, w13, w14, w15] kc ks := ab_go hx kX8_splitCost.2 31 [] 0 h
def mX8_second : ab_M := ((yX8_second, cX8_second, 3, (some .int)), ([8, 4, 5, 5, 0, 1, 2, 7, 6, 1, 7, 7, 7, 7, 3, 3], [(0, 0), (0, 1), (0, 2), (0, 3), (0, 4), (0, 5), (0, 6), (0, 7), (0, 8), (0, 9), (0, 10), (0, 11), (0, 12), (0, 13), (0, 14), (0, 15)], [true, false, false, false, false, true, false, false, false, false, false, false, false, false, false, false], true, true, 0), (false, 8, 2))
def rX8_second : List ab_R := [(0, .aload_n 0, 1, 0, 0, 0, [], none),
  (1, .iload_n 1, 1, 0, 0, 0, [], none),
  (2, .iload_n 2, 1, 0, 0, 0, [], none),
  (3, .invokevirtual 184, 3, 0, 0, 0, [], some mX8_hasSpan),
  (6, .ifCond .ne 9, 3, 0, 0, 0, [15], none),
  (9, .aload_n 0, 1, 0, 0, 0, [], none),
  (10, .iconst 1, 1, 0, 0, 0, [], none),
  (11, .invokevirtual 101, 3, 0, 0, 0, [], some mX8_refuse),
  (14, .ireturn, 1, 0, 0, 0, [], none),
  (15, .aload_n 0, 1, 0, 0, 0, [], none),
  (16, .iload_n 1, 1, 0, 0, 0, [], none),
  (17, .iload_n 2, 1, 0, 0, 0, [], none),
  (18, .if_icmp .ne 8, 3, 0, 0, 0, [26], none),
  (21, .bipush (-2), 2, 0, 0, 0, [], none),
  (23, .goto 12, 3, 0, 0, 0, [35], none),
  (26, .aload_n 0, 1, 0, 0, 0, [], none),
  (27, .invokevirtual 188, 3, 0, 0, 0, [], some mX8_freshSpans),
  (30, .iload_n 1, 1, 0, 0, 0, [], none),
  (31, .iload_n 2, 1, 0, 0, 0, [], none),
  (32, .invokevirtual 224, 3, 0, 0, 0, [], some mX1_nextHead),
  (35, .invokevirtual 124, 3, 0, 0, 0, [], some mX8_grant),
  (38, .ireturn, 1, 0, 0, 0, [], none)]
set_option maxRecDepth 100000 in
theorem kX8_second : ab_def_ok mX8_second rX8_second := ⟨ab_mok_of 820 101 818 819 (by decide +kernel), [0, 0, 0, 751, 0, 0, 0, 455, 0, 0, 0, 0, 0, 0, 0, 0, 660, 0, 0, 821, 620, 0], by decide +kernel⟩
set_option maxRecDepth 100000 in
theorem vX8_second_0 {x : ab_Cx} {d mc ms : Nat} {Post : Option ab_V → List ab_Ob → Prop} (hx : ab_At x mX8_second d mc ms Post) (a1 a2 : Int) (w0 w1 w2 w3 w4 w5 w6 w7 w8 w9 w10 w11 w12 w13 w14 w15 : ab_Ob) (kc ks : Nat)
    (h : (∃ Q1 : Option ab_V → List ab_Ob → Prop, ab_Ct d 0 0 mX8_hasSpan [ab_O 0, ab_I a1, ab_I a2] [w0, w1, w2, w3, w4, w5, w6, w7, w8, w9, w10, w11, w12, w13, w14, w15] Q1 ∧ (∀ r2 : Int, Q1 (some (ab_I r2)) [w0, w1, w2, w3, w4, w5, w6, w7, w8, w9, w10, w11, w12, w13, w14, w15] → ((¬ r2 = 0 → ((¬ a1 = a2 → (∃ mc3 ms4 : Nat, (kc + mc3 ≤ mc ∧ ks + ms4 ≤ ms) ∧ ∃ Q5 : Option ab_V → List ab_Ob → Prop, ab_Ct d mc3 ms4 mX8_freshSpans [ab_O 0] [w0, w1, w2, w3, w4, w5, w6, w7, w8, w9, w10, w11, w12, w13, w14, w15] Q5 ∧ (∀ v6 : ab_Ob, ∀ v7 : ab_Ob, Q5 (some (ab_O 5)) [v6, w1, w2, w3, w4, v7, w6, w7, w8, w9, w10, w11, w12, w13, w14, w15] → (∃ Q8 : Option ab_V → List ab_Ob → Prop, ab_Ct d 0 0 mX1_nextHead [ab_O 0, ab_I a1, ab_I a2] [v7] Q8 ∧ (∀ r9 : Int, Q8 (some (ab_I r9)) [v7] → (∃ Q10 : Option ab_V → List ab_Ob → Prop, ab_Ct d 0 0 mX8_grant [ab_O 0, ab_I r9] [v6, w1, w2, w3, w4, v7, w6, w7, w8, w9, w10, w11, w12, w13, w14, w15] Q10 ∧ (∀ r11 : Int, ∀ v12 : ab_Ob, Q10 (some (ab_I r11)) [v12, w1, w2, w3, w4, v7, w6, w7, w8, w9, w10, w11, w12, w13, w14, w15] → Post (some (ab_I r11)) [v12, w1, w2, w3, w4, v7, w6, w7, w8, w9, w10, w11, w12, w13, w14, w15]))))))) ∧ (a1 = a2 → (∃ Q13 : Option ab_V → List ab_Ob → Prop, ab_Ct d 0 0 mX8_grant [ab_O 0, ab_I (-2)] [w0, w1, w2, w3, w4, w5, w6, w7, w8, w9, w10, w11, w12, w13, w14, w15] Q13 ∧ (∀ r14 : Int, ∀ v15 : ab_Ob, Q13 (some (ab_I r14)) [v15, w1, w2, w3, w4, w5, w6, w7, w8, w9, w10, w11, w12, w13, w14, w15] → Post (some (ab_I r14)) [v15, w1, w2, w3, w4, w5, w6, w7, w8, w9, w10, w11, w12, w13, w14, w15]))))) ∧ (r2 = 0 → (∃ Q16 : Option ab_V → List ab_Ob → Prop, ab_Ct d 0 0 mX8_refuse [ab_O 0, ab_I 1] [w0, w1, w2, w3, w4, w5, w6, w7, w8, w9, w10, w11, w12, w13, w14, w15] Q16 ∧ (∀ r17 : Int, ∀ v18 : ab_Ob, Q16 (some (ab_I r17)) [v18, w1, w2, w3, w4, w5, w6, w7, w8, w9, w10, w11, w12, w13, w14, w15] → Post (some (ab_I r17)) [v18, w1, w2, w3, w4, w5, w6, w7, w8, w9, w10, w11, w12, w13, w14, w15]))))))) :
    ab_J x 0 [some (ab_O 0), some (ab_I a1), some (ab_I a2)] [] [w0, w1, w2, w3, w4, w5, w6, w7, w8, w9, w10, w11, w12, w13, w14, w15] kc ks := ab_go hx kX8_second.2 20 [] 0 h
