def mX8_feed : ab_M := ((yX8_feed, cX8_feed, 6, (some .int)), ([8, 4, 5, 5, 0, 1, 2, 7, 6, 1, 7, 7, 7, 7, 3, 3], [(0, 0), (0, 1), (0, 2), (0, 3), (0, 4), (0, 5), (0, 6), (0, 7), (0, 8), (0, 9), (0, 10), (0, 11), (0, 12), (0, 13), (0, 14), (0, 15)], [false, true, false, false, false, false, false, false, false, false, false, false, false, false, false, false], false, false, 0), (false, 8, 5))
def rX8_feed : List ab_R := [(0, .aload_n 0, 1, 0, 0, 0, [], none),
  (1, .getfield 16, 3, 8, 1, 0, [], none),
  (4, .getfield 94, 3, 4, 0, 0, [], none),
  (7, .sipush 680, 3, 0, 0, 0, [], none),
  (10, .if_icmp .le 5, 3, 0, 0, 0, [15], none),
  (13, .iconst (-1), 1, 0, 0, 0, [], none),
  (14, .ireturn, 1, 0, 0, 0, [], none),
  (15, .aload_n 0, 1, 0, 0, 0, [], none),
  (16, .getfield 16, 3, 8, 1, 0, [], none),
  (19, .iload_n 1, 1, 0, 0, 0, [], none),
  (20, .invokevirtual 97, 3, 0, 0, 0, [], some mX4_take),
  (23, .aload_n 0, 1, 0, 0, 0, [], none),
  (24, .getfield 16, 3, 8, 1, 0, [], none),
  (27, .iload_n 2, 1, 0, 0, 0, [], none),
  (28, .invokevirtual 97, 3, 0, 0, 0, [], some mX4_take),
  (31, .aload_n 0, 1, 0, 0, 0, [], none),
  (32, .getfield 16, 3, 8, 1, 0, [], none),
  (35, .iload_n 3, 1, 0, 0, 0, [], none),
  (36, .invokevirtual 97, 3, 0, 0, 0, [], some mX4_take),
  (39, .aload_n 0, 1, 0, 0, 0, [], none),
  (40, .getfield 16, 3, 8, 1, 0, [], none),
  (43, .iload 4, 2, 0, 0, 0, [], none),
  (45, .invokevirtual 97, 3, 0, 0, 0, [], some mX4_take),
  (48, .aload_n 0, 1, 0, 0, 0, [], none),
  (49, .getfield 16, 3, 8, 1, 0, [], none),
  (52, .iload 5, 2, 0, 0, 0, [], none),
  (54, .invokevirtual 97, 3, 0, 0, 0, [], some mX4_take),
  (57, .aload_n 0, 1, 0, 0, 0, [], none),
  (58, .getfield 16, 3, 8, 1, 0, [], none),
  (61, .getfield 94, 3, 4, 0, 0, [], none),
  (64, .ireturn, 1, 0, 0, 0, [], none)]
set_option maxRecDepth 100000 in
theorem kX8_feed : ab_def_ok mX8_feed rX8_feed := ⟨ab_mok_of 446 101 444 445 (by decide +kernel), [0, 392, 194, 0, 0, 0, 0, 0, 392, 0, 447, 0, 392, 0, 447, 0, 392, 0, 447, 0, 392, 0, 447, 0, 392, 0, 447, 0, 392, 194, 0], by decide +kernel⟩
set_option maxRecDepth 100000 in
theorem vX8_feed_0 {x : ab_Cx} {d mc ms : Nat} {Post : Option ab_V → List ab_Ob → Prop} (hx : ab_At x mX8_feed d mc ms Post) (a1 a2 a3 a4 a5 : Int) (w0 w1 w2 w3 w4 w5 w6 w7 w8 w9 w10 w11 w12 w13 w14 w15 : ab_Ob) (kc ks : Nat)
    (h : (((w1.1 0) ≤ 680 → (∃ v1 : ab_Ob, ab_Calls d 0 0 mX4_take [ab_O 0, ab_I a1] [w1, w2] none [v1, w2] ∧ (∃ v2 : ab_Ob, ab_Calls d 0 0 mX4_take [ab_O 0, ab_I a2] [v1, w2] none [v2, w2] ∧ (∃ v3 : ab_Ob, ab_Calls d 0 0 mX4_take [ab_O 0, ab_I a3] [v2, w2] none [v3, w2] ∧ (∃ v4 : ab_Ob, ab_Calls d 0 0 mX4_take [ab_O 0, ab_I a4] [v3, w2] none [v4, w2] ∧ (∃ v5 : ab_Ob, ab_Calls d 0 0 mX4_take [ab_O 0, ab_I a5] [v4, w2] none [v5, w2] ∧ Post (some (ab_I (v5.1 0))) [w0, v5, w2, w3, w4, w5, w6, w7, w8, w9, w10, w11, w12, w13, w14, w15])))))) ∧ (¬ (w1.1 0) ≤ 680 → Post (some (ab_I (-1))) [w0, w1, w2, w3, w4, w5, w6, w7, w8, w9, w10, w11, w12, w13, w14, w15]))) :
    ab_J x 0 [some (ab_O 0), some (ab_I a1), some (ab_I a2), some (ab_I a3), some (ab_I a4), some (ab_I a5)] [] [w0, w1, w2, w3, w4, w5, w6, w7, w8, w9, w10, w11, w12, w13, w14, w15] kc ks := ab_go hx kX8_feed.2 33 [] 0 h
def mX8_refuse : ab_M := ((yX8_refuse, cX8_refuse, 2, (some .int)), ([8, 4, 5, 5, 0, 1, 2, 7, 6, 1, 7, 7, 7, 7, 3, 3], [(0, 0), (0, 1), (0, 2), (0, 3), (0, 4), (0, 5), (0, 6), (0, 7), (0, 8), (0, 9), (0, 10), (0, 11), (0, 12), (0, 13), (0, 14), (0, 15)], [true, false, false, false, false, false, false, false, false, false, false, false, false, false, false, false], false, false, 0), (false, 8, 1))
def rX8_refuse : List ab_R := [(0, .aload_n 0, 1, 0, 0, 0, [], none),
  (1, .iload_n 1, 1, 0, 0, 0, [], none),
  (2, .putfield 9, 3, 8, 0, 0, [], none),
  (5, .iconst (-1), 1, 0, 0, 0, [], none),
  (6, .ireturn, 1, 0, 0, 0, [], none)]
set_option maxRecDepth 100000 in
theorem kX8_refuse : ab_def_ok mX8_refuse rX8_refuse := ⟨ab_mok_of 458 101 457 0 (by decide +kernel), [0, 0, 391, 0, 0], by decide +kernel⟩
set_option maxRecDepth 100000 in
theorem vX8_refuse_0 {x : ab_Cx} {d mc ms : Nat} {Post : Option ab_V → List ab_Ob → Prop} (hx : ab_At x mX8_refuse d mc ms Post) (a1 : Int) (w0 w1 w2 w3 w4 w5 w6 w7 w8 w9 w10 w11 w12 w13 w14 w15 : ab_Ob) (kc ks : Nat)
    (h : Post (some (ab_I (-1))) [(ab_pf w0 0 a1), w1, w2, w3, w4, w5, w6, w7, w8, w9, w10, w11, w12, w13, w14, w15]) :
    ab_J x 0 [some (ab_O 0), some (ab_I a1)] [] [w0, w1, w2, w3, w4, w5, w6, w7, w8, w9, w10, w11, w12, w13, w14, w15] kc ks := ab_go hx kX8_refuse.2 9 [] 0 h
def mX8_renew : ab_M := ((yX8_renew, cX8_renew, 1, none), ([8, 4, 5, 5, 0, 1, 2, 7, 6, 1, 7, 7, 7, 7, 3, 3], [(0, 0), (0, 1), (0, 2), (0, 3), (0, 4), (0, 5), (0, 6), (0, 7), (0, 8), (0, 9), (0, 10), (0, 11), (0, 12), (0, 13), (0, 14), (0, 15)], [true, false, false, false, false, false, false, false, true, false, false, false, false, false, false, false], false, false, 0), (false, 8, 0))
def rX8_renew : List ab_R := [(0, .aload_n 0, 1, 0, 0, 0, [], none),
  (1, .iconst 0, 1, 0, 0, 0, [], none),
  (2, .putfield 41, 3, 8, 5, 0, [], none),
  (5, .aload_n 0, 1, 0, 0, 0, [], none),
  (6, .iconst 0, 1, 0, 0, 0, [], none),
  (7, .putfield 52, 3, 8, 7, 0, [], none),
  (10, .aload_n 0, 1, 0, 0, 0, [], none),
  (11, .iconst 0, 1, 0, 0, 0, [], none),
  (12, .putfield 62, 3, 8, 9, 0, [], none),
  (15, .aload_n 0, 1, 0, 0, 0, [], none),
  (16, .getfield 68, 3, 8, 10, 0, [], none),
  (19, .invokevirtual 376, 3, 0, 0, 0, [], some mX6_forget),
  (22, .return_, 1, 0, 0, 0, [], none)]
set_option maxRecDepth 100000 in
theorem kX8_renew : ab_def_ok mX8_renew rX8_renew := ⟨ab_mok_of 615 101 614 17 (by decide +kernel), [0, 0, 396, 0, 0, 398, 0, 0, 400, 0, 401, 616, 0], by decide +kernel⟩
set_option maxRecDepth 100000 in
theorem vX8_renew_0 {x : ab_Cx} {d mc ms : Nat} {Post : Option ab_V → List ab_Ob → Prop} (hx : ab_At x mX8_renew d mc ms Post) (w0 w1 w2 w3 w4 w5 w6 w7 w8 w9 w10 w11 w12 w13 w14 w15 : ab_Ob) (kc ks : Nat)
    (h : (((0 : Int) = 0 ∨ (0 : Int) = 1) ∧ (((0 : Int) = 0 ∨ (0 : Int) = 1) ∧ (((0 : Int) = 0 ∨ (0 : Int) = 1) ∧ (∃ v1 : ab_Ob, ab_Calls d 0 0 mX6_forget [ab_O 0] [w8, w9, w10] none [v1, w9, w10] ∧ Post none [(ab_pf (ab_pf (ab_pf w0 5 0) 7 0) 9 0), w1, w2, w3, w4, w5, w6, w7, v1, w9, w10, w11, w12, w13, w14, w15]))))) :
    ab_J x 0 [some (ab_O 0)] [] [w0, w1, w2, w3, w4, w5, w6, w7, w8, w9, w10, w11, w12, w13, w14, w15] kc ks := ab_go hx kX8_renew.2 17 [] 0 h
def mX8_grant : ab_M := ((yX8_grant, cX8_grant, 2, (some .int)), ([8, 4, 5, 5, 0, 1, 2, 7, 6, 1, 7, 7, 7, 7, 3, 3], [(0, 0), (0, 1), (0, 2), (0, 3), (0, 4), (0, 5), (0, 6), (0, 7), (0, 8), (0, 9), (0, 10), (0, 11), (0, 12), (0, 13), (0, 14), (0, 15)], [true, false, false, false, false, false, false, false, false, false, false, false, false, false, false, false], false, false, 0), (false, 8, 1))
def rX8_grant : List ab_R := [(0, .aload_n 0, 1, 0, 0, 0, [], none),
  (1, .iconst 0, 1, 0, 0, 0, [], none),
  (2, .putfield 9, 3, 8, 0, 0, [], none),
  (5, .iload_n 1, 1, 0, 0, 0, [], none),
  (6, .ireturn, 1, 0, 0, 0, [], none)]
set_option maxRecDepth 100000 in
theorem kX8_grant : ab_def_ok mX8_grant rX8_grant := ⟨ab_mok_of 623 101 622 18 (by decide +kernel), [0, 0, 391, 0, 0], by decide +kernel⟩
set_option maxRecDepth 100000 in
theorem vX8_grant_0 {x : ab_Cx} {d mc ms : Nat} {Post : Option ab_V → List ab_Ob → Prop} (hx : ab_At x mX8_grant d mc ms Post) (a1 : Int) (w0 w1 w2 w3 w4 w5 w6 w7 w8 w9 w10 w11 w12 w13 w14 w15 : ab_Ob) (kc ks : Nat)
    (h : Post (some (ab_I a1)) [(ab_pf w0 0 0), w1, w2, w3, w4, w5, w6, w7, w8, w9, w10, w11, w12, w13, w14, w15]) :
    ab_J x 0 [some (ab_O 0), some (ab_I a1)] [] [w0, w1, w2, w3, w4, w5, w6, w7, w8, w9, w10, w11, w12, w13, w14, w15] kc ks := ab_go hx kX8_grant.2 9 [] 0 h
def mX8_fault : ab_M := ((yX8_fault, cX8_fault, 1, (some .int)), ([8, 4, 5, 5, 0, 1, 2, 7, 6, 1, 7, 7, 7, 7, 3, 3], [(0, 0), (0, 1), (0, 2), (0, 3), (0, 4), (0, 5), (0, 6), (0, 7), (0, 8), (0, 9), (0, 10), (0, 11), (0, 12), (0, 13), (0, 14), (0, 15)], [false, false, false, false, false, false, false, false, false, false, false, false, false, false, false, false], false, false, 0), (false, 8, 0))
def rX8_fault : List ab_R := [(0, .aload_n 0, 1, 0, 0, 0, [], none),
  (1, .getfield 16, 3, 8, 1, 0, [], none),
  (4, .getfield 108, 3, 4, 10, 0, [], none),
  (7, .ireturn, 1, 0, 0, 0, [], none)]
set_option maxRecDepth 100000 in
theorem kX8_fault : ab_def_ok mX8_fault rX8_fault := ⟨ab_mok_of 627 101 625 626 (by decide +kernel), [0, 392, 206, 0], by decide +kernel⟩
set_option maxRecDepth 100000 in
theorem vX8_fault_0 {x : ab_Cx} {d mc ms : Nat} {Post : Option ab_V → List ab_Ob → Prop} (hx : ab_At x mX8_fault d mc ms Post) (w0 w1 w2 w3 w4 w5 w6 w7 w8 w9 w10 w11 w12 w13 w14 w15 : ab_Ob) (kc ks : Nat)
    (h : Post (some (ab_I (w1.1 10))) [w0, w1, w2, w3, w4, w5, w6, w7, w8, w9, w10, w11, w12, w13, w14, w15]) :
    ab_J x 0 [some (ab_O 0)] [] [w0, w1, w2, w3, w4, w5, w6, w7, w8, w9, w10, w11, w12, w13, w14, w15] kc ks := ab_go hx kX8_fault.2 8 [] 0 h
def mX8_where : ab_M := ((yX8_where, cX8_where, 1, (some .int)), ([8, 4, 5, 5, 0, 1, 2, 7, 6, 1, 7, 7, 7, 7, 3, 3], [(0, 0), (0, 1), (0, 2), (0, 3), (0, 4), (0, 5), (0, 6), (0, 7), (0, 8), (0, 9), (0, 10), (0, 11), (0, 12), (0, 13), (0, 14), (0, 15)], [false, false, false, false, false, false, false, false, false, false, false, false, false, false, false, false], false, false, 0), (false, 8, 0))
def rX8_where : List ab_R := [(0, .aload_n 0, 1, 0, 0, 0, [], none),
  (1, .getfield 9, 3, 8, 0, 0, [], none),
  (4, .iconst 4, 1, 0, 0, 0, [], none),
  (5, .if_icmp .ne 13, 3, 0, 0, 0, [18], none),
  (8, .aload_n 0, 1, 0, 0, 0, [], none),
  (9, .getfield 16, 3, 8, 1, 0, [], none),
  (12, .getfield 127, 3, 4, 7, 0, [], none),
  (15, .goto 4, 3, 0, 0, 0, [19], none),
  (18, .iconst (-1), 1, 0, 0, 0, [], none),
  (19, .ireturn, 1, 0, 0, 0, [], none)]
set_option maxRecDepth 100000 in
theorem kX8_where : ab_def_ok mX8_where rX8_where := ⟨ab_mok_of 631 101 629 630 (by decide +kernel), [0, 391, 0, 0, 0, 392, 202, 0, 0, 0], by decide +kernel⟩
set_option maxRecDepth 100000 in
theorem vX8_where_0 {x : ab_Cx} {d mc ms : Nat} {Post : Option ab_V → List ab_Ob → Prop} (hx : ab_At x mX8_where d mc ms Post) (w0 w1 w2 w3 w4 w5 w6 w7 w8 w9 w10 w11 w12 w13 w14 w15 : ab_Ob) (kc ks : Nat)
    (h : ((¬ (w0.1 0) = 4 → Post (some (ab_I (-1))) [w0, w1, w2, w3, w4, w5, w6, w7, w8, w9, w10, w11, w12, w13, w14, w15]) ∧ ((w0.1 0) = 4 → Post (some (ab_I (w1.1 7))) [w0, w1, w2, w3, w4, w5, w6, w7, w8, w9, w10, w11, w12, w13, w14, w15]))) :
    ab_J x 0 [some (ab_O 0)] [] [w0, w1, w2, w3, w4, w5, w6, w7, w8, w9, w10, w11, w12, w13, w14, w15] kc ks := ab_go hx kX8_where.2 13 [] 0 h
def mX8_hasPiece : ab_M := ((yX8_hasPiece, cX8_hasPiece, 1, (some .boolean)), ([8, 4, 5, 5, 0, 1, 2, 7, 6, 1, 7, 7, 7, 7, 3, 3], [(0, 0), (0, 1), (0, 2), (0, 3), (0, 4), (0, 5), (0, 6), (0, 7), (0, 8), (0, 9), (0, 10), (0, 11), (0, 12), (0, 13), (0, 14), (0, 15)], [false, false, false, false, false, false, false, false, false, false, false, false, false, false, false, false], false, false, 0), (false, 8, 0))
def rX8_hasPiece : List ab_R := [(0, .aload_n 0, 1, 0, 0, 0, [], none),
  (1, .getfield 23, 3, 8, 2, 0, [], none),
  (4, .getfield 121, 3, 5, 3, 0, [], none),
  (7, .ifCond .le 7, 3, 0, 0, 0, [14], none),
  (10, .iconst 1, 1, 0, 0, 0, [], none),
  (11, .goto 4, 3, 0, 0, 0, [15], none),
  (14, .iconst 0, 1, 0, 0, 0, [], none),
  (15, .ireturn, 1, 0, 0, 0, [], none)]
set_option maxRecDepth 100000 in
theorem kX8_hasPiece : ab_def_ok mX8_hasPiece rX8_hasPiece := ⟨ab_mok_of 639 101 638 19 (by decide +kernel), [0, 393, 150, 0, 0, 0, 0, 0], by decide +kernel⟩
set_option maxRecDepth 100000 in
theorem vX8_hasPiece_0 {x : ab_Cx} {d mc ms : Nat} {Post : Option ab_V → List ab_Ob → Prop} (hx : ab_At x mX8_hasPiece d mc ms Post) (w0 w1 w2 w3 w4 w5 w6 w7 w8 w9 w10 w11 w12 w13 w14 w15 : ab_Ob) (kc ks : Nat)
    (h : (((w3.1 3) ≤ 0 → (((0 : Int) = 0 ∨ (0 : Int) = 1) ∧ Post (some (ab_I 0)) [w0, w1, w2, w3, w4, w5, w6, w7, w8, w9, w10, w11, w12, w13, w14, w15])) ∧ (¬ (w3.1 3) ≤ 0 → (((1 : Int) = 0 ∨ (1 : Int) = 1) ∧ Post (some (ab_I 1)) [w0, w1, w2, w3, w4, w5, w6, w7, w8, w9, w10, w11, w12, w13, w14, w15])))) :
    ab_J x 0 [some (ab_O 0)] [] [w0, w1, w2, w3, w4, w5, w6, w7, w8, w9, w10, w11, w12, w13, w14, w15] kc ks := ab_go hx kX8_hasPiece.2 11 [] 0 h
def mX8_about : ab_M := ((yX8_about, cX8_about, 2, (some .int)), ([8, 4, 5, 5, 0, 1, 2, 7, 6, 1, 7, 7, 7, 7, 3, 3], [(0, 0), (0, 1), (0, 2), (0, 3), (0, 4), (0, 5), (0, 6), (0, 7), (0, 8), (0, 9), (0, 10), (0, 11), (0, 12), (0, 13), (0, 14), (0, 15)], [true, false, false, false, false, false, false, false, false, false, false, false, false, false, false, false], false, false, 0), (false, 8, 1))
def rX8_about : List ab_R := [(0, .aload_n 0, 1, 0, 0, 0, [], none),
  (1, .invokevirtual 130, 3, 0, 0, 0, [], some mX8_hasPiece),
  (4, .ifCond .ne 9, 3, 0, 0, 0, [13], none),
  (7, .aload_n 0, 1, 0, 0, 0, [], none),
  (8, .iconst 1, 1, 0, 0, 0, [], none),
  (9, .invokevirtual 101, 3, 0, 0, 0, [], some mX8_refuse),
  (12, .ireturn, 1, 0, 0, 0, [], none),
  (13, .iload_n 1, 1, 0, 0, 0, [], none),
  (14, .tableswitch 120 0 5 #[38, 50, 62, 74, 86, 108], 38, 0, 0, 0, [134, 52, 64, 76, 88, 100, 122], none),
  (52, .aload_n 0, 1, 0, 0, 0, [], none),
  (53, .aload_n 0, 1, 0, 0, 0, [], none),
  (54, .getfield 23, 3, 8, 2, 0, [], none),
  (57, .getfield 134, 3, 5, 0, 0, [], none),
  (60, .invokevirtual 124, 3, 0, 0, 0, [], some mX8_grant),
  (63, .ireturn, 1, 0, 0, 0, [], none),
  (64, .aload_n 0, 1, 0, 0, 0, [], none),
  (65, .aload_n 0, 1, 0, 0, 0, [], none),
  (66, .getfield 23, 3, 8, 2, 0, [], none),
  (69, .getfield 137, 3, 5, 1, 0, [], none),
  (72, .invokevirtual 124, 3, 0, 0, 0, [], some mX8_grant),
  (75, .ireturn, 1, 0, 0, 0, [], none),
  (76, .aload_n 0, 1, 0, 0, 0, [], none),
  (77, .aload_n 0, 1, 0, 0, 0, [], none),
  (78, .getfield 23, 3, 8, 2, 0, [], none),
  (81, .getfield 140, 3, 5, 2, 0, [], none),
  (84, .invokevirtual 124, 3, 0, 0, 0, [], some mX8_grant),
  (87, .ireturn, 1, 0, 0, 0, [], none),
  (88, .aload_n 0, 1, 0, 0, 0, [], none),
  (89, .aload_n 0, 1, 0, 0, 0, [], none),
  (90, .getfield 23, 3, 8, 2, 0, [], none),
  (93, .getfield 121, 3, 5, 3, 0, [], none),
  (96, .invokevirtual 124, 3, 0, 0, 0, [], some mX8_grant),
  (99, .ireturn, 1, 0, 0, 0, [], none),
  (100, .aload_n 0, 1, 0, 0, 0, [], none),
  (101, .aload_n 0, 1, 0, 0, 0, [], none),
  (102, .getfield 23, 3, 8, 2, 0, [], none),
  (105, .iconst 0, 1, 0, 0, 0, [], none),
  (106, .aload_n 0, 1, 0, 0, 0, [], none),
  (107, .getfield 23, 3, 8, 2, 0, [], none),
  (110, .getfield 121, 3, 5, 3, 0, [], none),
  (113, .iconst 1, 1, 0, 0, 0, [], none),
  (114, .isub, 1, 0, 0, 0, [], none),
  (115, .invokevirtual 143, 3, 0, 0, 0, [], some mX5_lasting),
  (118, .invokevirtual 124, 3, 0, 0, 0, [], some mX8_grant),
  (121, .ireturn, 1, 0, 0, 0, [], none),
  (122, .aload_n 0, 1, 0, 0, 0, [], none),
  (123, .aload_n 0, 1, 0, 0, 0, [], none),
  (124, .getfield 23, 3, 8, 2, 0, [], none),
  (127, .invokevirtual 147, 3, 0, 0, 0, [], some mX5_weighted),
  (130, .invokevirtual 124, 3, 0, 0, 0, [], some mX8_grant),
  (133, .ireturn, 1, 0, 0, 0, [], none),
  (134, .aload_n 0, 1, 0, 0, 0, [], none),
  (135, .iconst 1, 1, 0, 0, 0, [], none),
  (136, .invokevirtual 101, 3, 0, 0, 0, [], some mX8_refuse),
  (139, .ireturn, 1, 0, 0, 0, [], none)]
set_option maxRecDepth 100000 in
theorem kX8_about : ab_def_ok mX8_about rX8_about := ⟨ab_mok_of 635 101 633 634 (by decide +kernel), [0, 636, 0, 0, 0, 455, 0, 0, 0, 0, 0, 393, 141, 620, 0, 0, 0, 393, 144, 620, 0, 0, 0, 393, 147, 620, 0, 0, 0, 393, 150, 620, 0, 0, 0, 393, 0, 0, 393, 150, 0, 0, 640, 620, 0, 0, 0, 393, 644, 620, 0, 0, 0, 455, 0], by decide +kernel⟩
set_option maxRecDepth 100000 in
theorem vX8_about_0 {x : ab_Cx} {d mc ms : Nat} {Post : Option ab_V → List ab_Ob → Prop} (hx : ab_At x mX8_about d mc ms Post) (a1 : Int) (w0 w1 w2 w3 w4 w5 w6 w7 w8 w9 w10 w11 w12 w13 w14 w15 : ab_Ob) (kc ks : Nat)
    (h : (∃ r1 : Int, ab_Calls d 0 0 mX8_hasPiece [ab_O 0] [w0, w1, w2, w3, w4, w5, w6, w7, w8, w9, w10, w11, w12, w13, w14, w15] (some (ab_I r1)) [w0, w1, w2, w3, w4, w5, w6, w7, w8, w9, w10, w11, w12, w13, w14, w15] ∧ ((¬ r1 = 0 → ((a1 < 0 ∨ 5 < a1 → (∃ r16 : Int, ∃ v17 : ab_Ob, ab_Calls d 0 0 mX8_refuse [ab_O 0, ab_I 1] [w0, w1, w2, w3, w4, w5, w6, w7, w8, w9, w10, w11, w12, w13, w14, w15] (some (ab_I r16)) [v17, w1, w2, w3, w4, w5, w6, w7, w8, w9, w10, w11, w12, w13, w14, w15] ∧ Post (some (ab_I r16)) [v17, w1, w2, w3, w4, w5, w6, w7, w8, w9, w10, w11, w12, w13, w14, w15])) ∧ ((a1 = 0 → (∃ r14 : Int, ∃ v15 : ab_Ob, ab_Calls d 0 0 mX8_grant [ab_O 0, ab_I (w3.1 0)] [w0, w1, w2, w3, w4, w5, w6, w7, w8, w9, w10, w11, w12, w13, w14, w15] (some (ab_I r14)) [v15, w1, w2, w3, w4, w5, w6, w7, w8, w9, w10, w11, w12, w13, w14, w15] ∧ Post (some (ab_I r14)) [v15, w1, w2, w3, w4, w5, w6, w7, w8, w9, w10, w11, w12, w13, w14, w15])) ∧ ((a1 = 1 → (∃ r12 : Int, ∃ v13 : ab_Ob, ab_Calls d 0 0 mX8_grant [ab_O 0, ab_I (w3.1 1)] [w0, w1, w2, w3, w4, w5, w6, w7, w8, w9, w10, w11, w12, w13, w14, w15] (some (ab_I r12)) [v13, w1, w2, w3, w4, w5, w6, w7, w8, w9, w10, w11, w12, w13, w14, w15] ∧ Post (some (ab_I r12)) [v13, w1, w2, w3, w4, w5, w6, w7, w8, w9, w10, w11, w12, w13, w14, w15])) ∧ ((a1 = 2 → (∃ r10 : Int, ∃ v11 : ab_Ob, ab_Calls d 0 0 mX8_grant [ab_O 0, ab_I (w3.1 2)] [w0, w1, w2, w3, w4, w5, w6, w7, w8, w9, w10, w11, w12, w13, w14, w15] (some (ab_I r10)) [v11, w1, w2, w3, w4, w5, w6, w7, w8, w9, w10, w11, w12, w13, w14, w15] ∧ Post (some (ab_I r10)) [v11, w1, w2, w3, w4, w5, w6, w7, w8, w9, w10, w11, w12, w13, w14, w15])) ∧ ((a1 = 3 → (∃ r8 : Int, ∃ v9 : ab_Ob, ab_Calls d 0 0 mX8_grant [ab_O 0, ab_I (w3.1 3)] [w0, w1, w2, w3, w4, w5, w6, w7, w8, w9, w10, w11, w12, w13, w14, w15] (some (ab_I r8)) [v9, w1, w2, w3, w4, w5, w6, w7, w8, w9, w10, w11, w12, w13, w14, w15] ∧ Post (some (ab_I r8)) [v9, w1, w2, w3, w4, w5, w6, w7, w8, w9, w10, w11, w12, w13, w14, w15])) ∧ ((a1 = 4 → ((-2147483648 ≤ (w3.1 3) - 1 ∧ (w3.1 3) - 1 ≤ 2147483647) ∧ (∃ r5 : Int, ab_Calls d 0 0 mX5_lasting [ab_O 0, ab_I 0, ab_I ((w3.1 3) - 1)] [w3] (some (ab_I r5)) [w3] ∧ (∃ r6 : Int, ∃ v7 : ab_Ob, ab_Calls d 0 0 mX8_grant [ab_O 0, ab_I r5] [w0, w1, w2, w3, w4, w5, w6, w7, w8, w9, w10, w11, w12, w13, w14, w15] (some (ab_I r6)) [v7, w1, w2, w3, w4, w5, w6, w7, w8, w9, w10, w11, w12, w13, w14, w15] ∧ Post (some (ab_I r6)) [v7, w1, w2, w3, w4, w5, w6, w7, w8, w9, w10, w11, w12, w13, w14, w15])))) ∧ ((a1 = 5 → (∃ r2 : Int, ab_Calls d 0 0 mX5_weighted [ab_O 0] [w3] (some (ab_I r2)) [w3] ∧ (∃ r3 : Int, ∃ v4 : ab_Ob, ab_Calls d 0 0 mX8_grant [ab_O 0, ab_I r2] [w0, w1, w2, w3, w4, w5, w6, w7, w8, w9, w10, w11, w12, w13, w14, w15] (some (ab_I r3)) [v4, w1, w2, w3, w4, w5, w6, w7, w8, w9, w10, w11, w12, w13, w14, w15] ∧ Post (some (ab_I r3)) [v4, w1, w2, w3, w4, w5, w6, w7, w8, w9, w10, w11, w12, w13, w14, w15]))) ∧ True)))))))) ∧ (r1 = 0 → (∃ r18 : Int, ∃ v19 : ab_Ob, ab_Calls d 0 0 mX8_refuse [ab_O 0, ab_I 1] [w0, w1, w2, w3, w4, w5, w6, w7, w8, w9, w10, w11, w12, w13, w14, w15] (some (ab_I r18)) [v19, w1, w2, w3, w4, w5, w6, w7, w8, w9, w10, w11, w12, w13, w14, w15] ∧ Post (some (ab_I r18)) [v19, w1, w2, w3, w4, w5, w6, w7, w8, w9, w10, w11, w12, w13, w14, w15]))))) :
    ab_J x 0 [some (ab_O 0), some (ab_I a1)] [] [w0, w1, w2, w3, w4, w5, w6, w7, w8, w9, w10, w11, w12, w13, w14, w15] kc ks := ab_go hx kX8_about.2 21 [] 0 h
def mX8_hasNote : ab_M := ((yX8_hasNote, cX8_hasNote, 2, (some .boolean)), ([8, 4, 5, 5, 0, 1, 2, 7, 6, 1, 7, 7, 7, 7, 3, 3], [(0, 0), (0, 1), (0, 2), (0, 3), (0, 4), (0, 5), (0, 6), (0, 7), (0, 8), (0, 9), (0, 10), (0, 11), (0, 12), (0, 13), (0, 14), (0, 15)], [false, false, false, false, false, false, false, false, false, false, false, false, false, false, false, false], false, false, 0), (false, 8, 1))
def rX8_hasNote : List ab_R := [(0, .iload_n 1, 1, 0, 0, 0, [], none),
  (1, .ifCond .lt 18, 3, 0, 0, 0, [19], none),
  (4, .iload_n 1, 1, 0, 0, 0, [], none),
  (5, .aload_n 0, 1, 0, 0, 0, [], none),
  (6, .getfield 23, 3, 8, 2, 0, [], none),
  (9, .getfield 121, 3, 5, 3, 0, [], none),
  (12, .if_icmp .ge 7, 3, 0, 0, 0, [19], none),
  (15, .iconst 1, 1, 0, 0, 0, [], none),
  (16, .goto 4, 3, 0, 0, 0, [20], none),
  (19, .iconst 0, 1, 0, 0, 0, [], none),
  (20, .ireturn, 1, 0, 0, 0, [], none)]
set_option maxRecDepth 100000 in
theorem kX8_hasNote : ab_def_ok mX8_hasNote rX8_hasNote := ⟨ab_mok_of 655 101 654 20 (by decide +kernel), [0, 0, 0, 0, 393, 150, 0, 0, 0, 0, 0], by decide +kernel⟩
set_option maxRecDepth 100000 in
theorem vX8_hasNote_0 {x : ab_Cx} {d mc ms : Nat} {Post : Option ab_V → List ab_Ob → Prop} (hx : ab_At x mX8_hasNote d mc ms Post) (a1 : Int) (w0 w1 w2 w3 w4 w5 w6 w7 w8 w9 w10 w11 w12 w13 w14 w15 : ab_Ob) (kc ks : Nat)
    (h : ((a1 < 0 → (((0 : Int) = 0 ∨ (0 : Int) = 1) ∧ Post (some (ab_I 0)) [w0, w1, w2, w3, w4, w5, w6, w7, w8, w9, w10, w11, w12, w13, w14, w15])) ∧ (¬ a1 < 0 → (((w3.1 3) ≤ a1 → (((0 : Int) = 0 ∨ (0 : Int) = 1) ∧ Post (some (ab_I 0)) [w0, w1, w2, w3, w4, w5, w6, w7, w8, w9, w10, w11, w12, w13, w14, w15])) ∧ (¬ (w3.1 3) ≤ a1 → (((1 : Int) = 0 ∨ (1 : Int) = 1) ∧ Post (some (ab_I 1)) [w0, w1, w2, w3, w4, w5, w6, w7, w8, w9, w10, w11, w12, w13, w14, w15])))))) :
    ab_J x 0 [some (ab_O 0), some (ab_I a1)] [] [w0, w1, w2, w3, w4, w5, w6, w7, w8, w9, w10, w11, w12, w13, w14, w15] kc ks := ab_go hx kX8_hasNote.2 14 [] 0 h
def mX8_freshSpans : ab_M := ((yX8_freshSpans, cX8_freshSpans, 1, (some (.object "HeadTrees$Chart"))), ([8, 4, 5, 5, 0, 1, 2, 7, 6, 1, 7, 7, 7, 7, 3, 3], [(0, 0), (0, 1), (0, 2), (0, 3), (0, 4), (0, 5), (0, 6), (0, 7), (0, 8), (0, 9), (0, 10), (0, 11), (0, 12), (0, 13), (0, 14), (0, 15)], [true, false, false, false, false, true, false, false, false, false, false, false, false, false, false, false], true, true, 5), (false, 8, 0))
def rX8_freshSpans : List ab_R := [(0, .aload_n 0, 1, 0, 0, 0, [], none),
  (1, .getfield 41, 3, 8, 5, 0, [], none),
  (4, .ifCond .ne 19, 3, 0, 0, 0, [23], none),
  (7, .aload_n 0, 1, 0, 0, 0, [], none),
  (8, .getfield 37, 3, 8, 4, 0, [], none),
  (11, .aload_n 0, 1, 0, 0, 0, [], none),
  (12, .getfield 23, 3, 8, 2, 0, [], none),
  (15, .invokevirtual 379, 3, 0, 0, 0, [], some mX1_fill),
  (18, .aload_n 0, 1, 0, 0, 0, [], none),
  (19, .iconst 1, 1, 0, 0, 0, [], none),
  (20, .putfield 41, 3, 8, 5, 0, [], none),
  (23, .aload_n 0, 1, 0, 0, 0, [], none),
  (24, .getfield 37, 3, 8, 4, 0, [], none),
  (27, .areturn, 1, 0, 0, 0, [], none)]
set_option maxRecDepth 100000 in
theorem kX8_freshSpans : ab_def_ok mX8_freshSpans rX8_freshSpans := ⟨ab_mok_of 663 101 662 22 (by decide +kernel), [0, 396, 0, 0, 395, 0, 393, 664, 0, 0, 396, 0, 395, 0], by decide +kernel⟩
set_option maxRecDepth 100000 in
theorem vX8_freshSpans_0 {x : ab_Cx} {d mc ms : Nat} {Post : Option ab_V → List ab_Ob → Prop} (hx : ab_At x mX8_freshSpans d mc ms Post) (w0 w1 w2 w3 w4 w5 w6 w7 w8 w9 w10 w11 w12 w13 w14 w15 : ab_Ob) (kc ks : Nat)
    (h : ((¬ (w0.1 5) = 0 → Post (some (ab_O 5)) [w0, w1, w2, w3, w4, w5, w6, w7, w8, w9, w10, w11, w12, w13, w14, w15]) ∧ ((w0.1 5) = 0 → (∃ mc1 ms2 : Nat, (kc + mc1 ≤ mc ∧ ks + ms2 ≤ ms) ∧ ∃ v3 : ab_Ob, ab_Calls d mc1 ms2 mX1_fill [ab_O 0, ab_O 1] [w5, w3] none [v3, w3] ∧ (((1 : Int) = 0 ∨ (1 : Int) = 1) ∧ Post (some (ab_O 5)) [(ab_pf w0 5 1), w1, w2, w3, w4, v3, w6, w7, w8, w9, w10, w11, w12, w13, w14, w15]))))) :
    ab_J x 0 [some (ab_O 0)] [] [w0, w1, w2, w3, w4, w5, w6, w7, w8, w9, w10, w11, w12, w13, w14, w15] kc ks := ab_go hx kX8_freshSpans.2 18 [] 0 h
def mX8_freshTree : ab_M := ((yX8_freshTree, cX8_freshTree, 1, (some (.object "HeadTrees$Tree"))), ([8, 4, 5, 5, 0, 1, 2, 7, 6, 1, 7, 7, 7, 7, 3, 3], [(0, 0), (0, 1), (0, 2), (0, 3), (0, 4), (0, 5), (0, 6), (0, 7), (0, 8), (0, 9), (0, 10), (0, 11), (0, 12), (0, 13), (0, 14), (0, 15)], [true, false, false, false, false, true, false, true, false, false, false, false, false, false, false, false], true, true, 7), (false, 8, 0))
def rX8_freshTree : List ab_R := [(0, .aload_n 0, 1, 0, 0, 0, [], none),
  (1, .getfield 62, 3, 8, 9, 0, [], none),
  (4, .ifCond .ne 29, 3, 0, 0, 0, [33], none),
  (7, .aload_n 0, 1, 0, 0, 0, [], none),
  (8, .getfield 58, 3, 8, 8, 0, [], none),
  (11, .aload_n 0, 1, 0, 0, 0, [], none),
  (12, .invokevirtual 188, 3, 0, 0, 0, [], some mX8_freshSpans),
  (15, .iconst 0, 1, 0, 0, 0, [], none),
  (16, .aload_n 0, 1, 0, 0, 0, [], none),
  (17, .getfield 23, 3, 8, 2, 0, [], none),
  (20, .getfield 121, 3, 5, 3, 0, [], none),
  (23, .iconst 1, 1, 0, 0, 0, [], none),
  (24, .isub, 1, 0, 0, 0, [], none),
  (25, .invokevirtual 327, 3, 0, 0, 0, [], some mX7_build),
  (28, .aload_n 0, 1, 0, 0, 0, [], none),
  (29, .iconst 1, 1, 0, 0, 0, [], none),
  (30, .putfield 62, 3, 8, 9, 0, [], none),
  (33, .aload_n 0, 1, 0, 0, 0, [], none),
  (34, .getfield 58, 3, 8, 8, 0, [], none),
  (37, .areturn, 1, 0, 0, 0, [], none)]
set_option maxRecDepth 100000 in
theorem kX8_freshTree : ab_def_ok mX8_freshTree rX8_freshTree := ⟨ab_mok_of 659 101 658 21 (by decide +kernel), [0, 400, 0, 0, 399, 0, 660, 0, 0, 393, 150, 0, 0, 698, 0, 0, 400, 0, 399, 0], by decide +kernel⟩
set_option maxRecDepth 100000 in
theorem vX8_freshTree_0 {x : ab_Cx} {d mc ms : Nat} {Post : Option ab_V → List ab_Ob → Prop} (hx : ab_At x mX8_freshTree d mc ms Post) (w0 w1 w2 w3 w4 w5 w6 w7 w8 w9 w10 w11 w12 w13 w14 w15 : ab_Ob) (kc ks : Nat)
    (h : ((¬ (w0.1 9) = 0 → Post (some (ab_O 7)) [w0, w1, w2, w3, w4, w5, w6, w7, w8, w9, w10, w11, w12, w13, w14, w15]) ∧ ((w0.1 9) = 0 → (∃ mc1 ms2 : Nat, (kc + mc1 ≤ mc ∧ ks + ms2 ≤ ms) ∧ ∃ v3 : ab_Ob, ∃ v4 : ab_Ob, ab_Calls d mc1 ms2 mX8_freshSpans [ab_O 0] [w0, w1, w2, w3, w4, w5, w6, w7, w8, w9, w10, w11, w12, w13, w14, w15] (some (ab_O 5)) [v3, w1, w2, w3, w4, v4, w6, w7, w8, w9, w10, w11, w12, w13, w14, w15] ∧ ((-2147483648 ≤ (w3.1 3) - 1 ∧ (w3.1 3) - 1 ≤ 2147483647) ∧ (∃ v5 : ab_Ob, ab_Calls d 0 0 mX7_build [ab_O 0, ab_O 1, ab_I 0, ab_I ((w3.1 3) - 1)] [w7, v4] none [v5, v4] ∧ (((1 : Int) = 0 ∨ (1 : Int) = 1) ∧ Post (some (ab_O 7)) [(ab_pf v3 9 1), w1, w2, w3, w4, v4, w6, v5, w8, w9, w10, w11, w12, w13, w14, w15]))))))) :
    ab_J x 0 [some (ab_O 0)] [] [w0, w1, w2, w3, w4, w5, w6, w7, w8, w9, w10, w11, w12, w13, w14, w15] kc ks := ab_go hx kX8_freshTree.2 24 [] 0 h
def mX8_note : ab_M := ((yX8_note, cX8_note, 3, (some .int)), ([8, 4, 5, 5, 0, 1, 2, 7, 6, 1, 7, 7, 7, 7, 3, 3], [(0, 0), (0, 1), (0, 2), (0, 3), (0, 4), (0, 5), (0, 6), (0, 7), (0, 8), (0, 9), (0, 10), (0, 11), (0, 12), (0, 13), (0, 14), (0, 15)], [true, false, false, false, false, true, false, true, false, false, false, false, false, false, false, false], true, true, 0), (false, 8, 2))
def rX8_note : List ab_R := [(0, .aload_n 0, 1, 0, 0, 0, [], none),
  (1, .iload_n 1, 1, 0, 0, 0, [], none),
  (2, .invokevirtual 151, 3, 0, 0, 0, [], some mX8_hasNote),
  (5, .ifCond .ne 9, 3, 0, 0, 0, [14], none),
  (8, .aload_n 0, 1, 0, 0, 0, [], none),
  (9, .iconst 1, 1, 0, 0, 0, [], none),
  (10, .invokevirtual 101, 3, 0, 0, 0, [], some mX8_refuse),
  (13, .ireturn, 1, 0, 0, 0, [], none),
  (14, .iload_n 2, 1, 0, 0, 0, [], none),
  (15, .tableswitch 120 0 5 #[37, 51, 65, 79, 93, 107], 37, 0, 0, 0, [135, 52, 66, 80, 94, 108, 122], none),
  (52, .aload_n 0, 1, 0, 0, 0, [], none),
  (53, .aload_n 0, 1, 0, 0, 0, [], none),
  (54, .getfield 23, 3, 8, 2, 0, [], none),
  (57, .getfield 155, 3, 5, 4, 0, [], none),
  (60, .iload_n 1, 1, 0, 0, 0, [], none),
  (61, .iaload, 1, 0, 0, 0, [], none),
  (62, .invokevirtual 124, 3, 0, 0, 0, [], some mX8_grant),
  (65, .ireturn, 1, 0, 0, 0, [], none),
  (66, .aload_n 0, 1, 0, 0, 0, [], none),
  (67, .aload_n 0, 1, 0, 0, 0, [], none),
  (68, .getfield 23, 3, 8, 2, 0, [], none),
  (71, .getfield 159, 3, 5, 5, 0, [], none),
  (74, .iload_n 1, 1, 0, 0, 0, [], none),
  (75, .iaload, 1, 0, 0, 0, [], none),
  (76, .invokevirtual 124, 3, 0, 0, 0, [], some mX8_grant),
  (79, .ireturn, 1, 0, 0, 0, [], none),
  (80, .aload_n 0, 1, 0, 0, 0, [], none),
  (81, .aload_n 0, 1, 0, 0, 0, [], none),
  (82, .getfield 23, 3, 8, 2, 0, [], none),
  (85, .getfield 162, 3, 5, 7, 0, [], none),
  (88, .iload_n 1, 1, 0, 0, 0, [], none),
  (89, .iaload, 1, 0, 0, 0, [], none),
  (90, .invokevirtual 124, 3, 0, 0, 0, [], some mX8_grant),
  (93, .ireturn, 1, 0, 0, 0, [], none),
  (94, .aload_n 0, 1, 0, 0, 0, [], none),
  (95, .aload_n 0, 1, 0, 0, 0, [], none),
  (96, .getfield 23, 3, 8, 2, 0, [], none),
  (99, .getfield 165, 3, 5, 8, 0, [], none),
  (102, .iload_n 1, 1, 0, 0, 0, [], none),
  (103, .iaload, 1, 0, 0, 0, [], none),
  (104, .invokevirtual 124, 3, 0, 0, 0, [], some mX8_grant),
  (107, .ireturn, 1, 0, 0, 0, [], none),
  (108, .aload_n 0, 1, 0, 0, 0, [], none),
  (109, .aload_n 0, 1, 0, 0, 0, [], none),
  (110, .getfield 23, 3, 8, 2, 0, [], none),
  (113, .getfield 168, 3, 5, 9, 0, [], none),
  (116, .iload_n 1, 1, 0, 0, 0, [], none),
  (117, .iaload, 1, 0, 0, 0, [], none),
  (118, .invokevirtual 124, 3, 0, 0, 0, [], some mX8_grant),
  (121, .ireturn, 1, 0, 0, 0, [], none),
  (122, .aload_n 0, 1, 0, 0, 0, [], none),
  (123, .aload_n 0, 1, 0, 0, 0, [], none),
  (124, .invokevirtual 171, 3, 0, 0, 0, [], some mX8_freshTree),
  (127, .iload_n 1, 1, 0, 0, 0, [], none),
  (128, .invokevirtual 175, 3, 0, 0, 0, [], some mX7_rank),
  (131, .invokevirtual 124, 3, 0, 0, 0, [], some mX8_grant),
  (134, .ireturn, 1, 0, 0, 0, [], none),
  (135, .aload_n 0, 1, 0, 0, 0, [], none),
  (136, .iconst 1, 1, 0, 0, 0, [], none),
  (137, .invokevirtual 101, 3, 0, 0, 0, [], some mX8_refuse),
  (140, .ireturn, 1, 0, 0, 0, [], none)]
set_option maxRecDepth 100000 in
theorem kX8_note : ab_def_ok mX8_note rX8_note := ⟨ab_mok_of 651 101 649 650 (by decide +kernel), [0, 0, 652, 0, 0, 0, 455, 0, 0, 0, 0, 0, 393, 156, 0, 0, 620, 0, 0, 0, 393, 158, 0, 0, 620, 0, 0, 0, 393, 165, 0, 0, 620, 0, 0, 0, 393, 167, 0, 0, 620, 0, 0, 0, 393, 169, 0, 0, 620, 0, 0, 0, 656, 0, 735, 620, 0, 0, 0, 455, 0], by decide +kernel⟩
set_option maxRecDepth 100000 in
theorem vX8_note_0 {x : ab_Cx} {d mc ms : Nat} {Post : Option ab_V → List ab_Ob → Prop} (hx : ab_At x mX8_note d mc ms Post) (a1 a2 : Int) (w0 w1 w2 w3 w4 w5 w6 w7 w8 w9 w10 w11 w12 w13 w14 w15 : ab_Ob) (kc ks : Nat)
    (h : (∃ r1 : Int, ab_Calls d 0 0 mX8_hasNote [ab_O 0, ab_I a1] [w0, w1, w2, w3, w4, w5, w6, w7, w8, w9, w10, w11, w12, w13, w14, w15] (some (ab_I r1)) [w0, w1, w2, w3, w4, w5, w6, w7, w8, w9, w10, w11, w12, w13, w14, w15] ∧ ((¬ r1 = 0 → ((a2 < 0 ∨ 5 < a2 → (∃ r20 : Int, ∃ v21 : ab_Ob, ab_Calls d 0 0 mX8_refuse [ab_O 0, ab_I 1] [w0, w1, w2, w3, w4, w5, w6, w7, w8, w9, w10, w11, w12, w13, w14, w15] (some (ab_I r20)) [v21, w1, w2, w3, w4, w5, w6, w7, w8, w9, w10, w11, w12, w13, w14, w15] ∧ Post (some (ab_I r20)) [v21, w1, w2, w3, w4, w5, w6, w7, w8, w9, w10, w11, w12, w13, w14, w15])) ∧ ((a2 = 0 → ((0 ≤ a1 ∧ a1 < (w3.2 4).1) ∧ (∃ r18 : Int, ∃ v19 : ab_Ob, ab_Calls d 0 0 mX8_grant [ab_O 0, ab_I ((w3.2 4).2 a1)] [w0, w1, w2, w3, w4, w5, w6, w7, w8, w9, w10, w11, w12, w13, w14, w15] (some (ab_I r18)) [v19, w1, w2, w3, w4, w5, w6, w7, w8, w9, w10, w11, w12, w13, w14, w15] ∧ Post (some (ab_I r18)) [v19, w1, w2, w3, w4, w5, w6, w7, w8, w9, w10, w11, w12, w13, w14, w15]))) ∧ ((a2 = 1 → ((0 ≤ a1 ∧ a1 < (w3.2 5).1) ∧ (∃ r16 : Int, ∃ v17 : ab_Ob, ab_Calls d 0 0 mX8_grant [ab_O 0, ab_I ((w3.2 5).2 a1)] [w0, w1, w2, w3, w4, w5, w6, w7, w8, w9, w10, w11, w12, w13, w14, w15] (some (ab_I r16)) [v17, w1, w2, w3, w4, w5, w6, w7, w8, w9, w10, w11, w12, w13, w14, w15] ∧ Post (some (ab_I r16)) [v17, w1, w2, w3, w4, w5, w6, w7, w8, w9, w10, w11, w12, w13, w14, w15]))) ∧ ((a2 = 2 → ((0 ≤ a1 ∧ a1 < (w3.2 7).1) ∧ (∃ r14 : Int, ∃ v15 : ab_Ob, ab_Calls d 0 0 mX8_grant [ab_O 0, ab_I ((w3.2 7).2 a1)] [w0, w1, w2, w3, w4, w5, w6, w7, w8, w9, w10, w11, w12, w13, w14, w15] (some (ab_I r14)) [v15, w1, w2, w3, w4, w5, w6, w7, w8, w9, w10, w11, w12, w13, w14, w15] ∧ Post (some (ab_I r14)) [v15, w1, w2, w3, w4, w5, w6, w7, w8, w9, w10, w11, w12, w13, w14, w15]))) ∧ ((a2 = 3 → ((0 ≤ a1 ∧ a1 < (w3.2 8).1) ∧ (∃ r12 : Int, ∃ v13 : ab_Ob, ab_Calls d 0 0 mX8_grant [ab_O 0, ab_I ((w3.2 8).2 a1)] [w0, w1, w2, w3, w4, w5, w6, w7, w8, w9, w10, w11, w12, w13, w14, w15] (some (ab_I r12)) [v13, w1, w2, w3, w4, w5, w6, w7, w8, w9, w10, w11, w12, w13, w14, w15] ∧ Post (some (ab_I r12)) [v13, w1, w2, w3, w4, w5, w6, w7, w8, w9, w10, w11, w12, w13, w14, w15]))) ∧ ((a2 = 4 → ((0 ≤ a1 ∧ a1 < (w3.2 9).1) ∧ (∃ r10 : Int, ∃ v11 : ab_Ob, ab_Calls d 0 0 mX8_grant [ab_O 0, ab_I ((w3.2 9).2 a1)] [w0, w1, w2, w3, w4, w5, w6, w7, w8, w9, w10, w11, w12, w13, w14, w15] (some (ab_I r10)) [v11, w1, w2, w3, w4, w5, w6, w7, w8, w9, w10, w11, w12, w13, w14, w15] ∧ Post (some (ab_I r10)) [v11, w1, w2, w3, w4, w5, w6, w7, w8, w9, w10, w11, w12, w13, w14, w15]))) ∧ ((a2 = 5 → (∃ mc2 ms3 : Nat, (kc + mc2 ≤ mc ∧ ks + ms3 ≤ ms) ∧ ∃ v4 : ab_Ob, ∃ v5 : ab_Ob, ∃ v6 : ab_Ob, ab_Calls d mc2 ms3 mX8_freshTree [ab_O 0] [w0, w1, w2, w3, w4, w5, w6, w7, w8, w9, w10, w11, w12, w13, w14, w15] (some (ab_O 7)) [v4, w1, w2, w3, w4, v5, w6, v6, w8, w9, w10, w11, w12, w13, w14, w15] ∧ (∃ r7 : Int, ab_Calls d 0 0 mX7_rank [ab_O 0, ab_I a1] [v6] (some (ab_I r7)) [v6] ∧ (∃ r8 : Int, ∃ v9 : ab_Ob, ab_Calls d 0 0 mX8_grant [ab_O 0, ab_I r7] [v4, w1, w2, w3, w4, v5, w6, v6, w8, w9, w10, w11, w12, w13, w14, w15] (some (ab_I r8)) [v9, w1, w2, w3, w4, v5, w6, v6, w8, w9, w10, w11, w12, w13, w14, w15] ∧ Post (some (ab_I r8)) [v9, w1, w2, w3, w4, v5, w6, v6, w8, w9, w10, w11, w12, w13, w14, w15])))) ∧ True)))))))) ∧ (r1 = 0 → (∃ r22 : Int, ∃ v23 : ab_Ob, ab_Calls d 0 0 mX8_refuse [ab_O 0, ab_I 1] [w0, w1, w2, w3, w4, w5, w6, w7, w8, w9, w10, w11, w12, w13, w14, w15] (some (ab_I r22)) [v23, w1, w2, w3, w4, w5, w6, w7, w8, w9, w10, w11, w12, w13, w14, w15] ∧ Post (some (ab_I r22)) [v23, w1, w2, w3, w4, w5, w6, w7, w8, w9, w10, w11, w12, w13, w14, w15]))))) :
    ab_J x 0 [some (ab_O 0), some (ab_I a1), some (ab_I a2)] [] [w0, w1, w2, w3, w4, w5, w6, w7, w8, w9, w10, w11, w12, w13, w14, w15] kc ks := ab_go hx kX8_note.2 18 [] 0 h
def mX8_hasRule : ab_M := ((yX8_hasRule, cX8_hasRule, 2, (some .boolean)), ([8, 4, 5, 5, 0, 1, 2, 7, 6, 1, 7, 7, 7, 7, 3, 3], [(0, 0), (0, 1), (0, 2), (0, 3), (0, 4), (0, 5), (0, 6), (0, 7), (0, 8), (0, 9), (0, 10), (0, 11), (0, 12), (0, 13), (0, 14), (0, 15)], [false, false, false, false, false, false, false, false, false, false, false, false, false, false, false, false], false, false, 0), (false, 8, 1))
def rX8_hasRule : List ab_R := [(0, .aload_n 0, 1, 0, 0, 0, [], none),
  (1, .invokevirtual 130, 3, 0, 0, 0, [], some mX8_hasPiece),
  (4, .ifCond .eq 17, 3, 0, 0, 0, [21], none),
  (7, .iload_n 1, 1, 0, 0, 0, [], none),
  (8, .ifCond .lt 13, 3, 0, 0, 0, [21], none),
  (11, .iload_n 1, 1, 0, 0, 0, [], none),
  (12, .bipush 6, 2, 0, 0, 0, [], none),
  (14, .if_icmp .ge 7, 3, 0, 0, 0, [21], none),
  (17, .iconst 1, 1, 0, 0, 0, [], none),
  (18, .goto 4, 3, 0, 0, 0, [22], none),
  (21, .iconst 0, 1, 0, 0, 0, [], none),
  (22, .ireturn, 1, 0, 0, 0, [], none)]
set_option maxRecDepth 100000 in
theorem kX8_hasRule : ab_def_ok mX8_hasRule rX8_hasRule := ⟨ab_mok_of 746 101 745 28 (by decide +kernel), [0, 636, 0, 0, 0, 0, 0, 0, 0, 0, 0, 0], by decide +kernel⟩
set_option maxRecDepth 100000 in
theorem vX8_hasRule_0 {x : ab_Cx} {d mc ms : Nat} {Post : Option ab_V → List ab_Ob → Prop} (hx : ab_At x mX8_hasRule d mc ms Post) (a1 : Int) (w0 w1 w2 w3 w4 w5 w6 w7 w8 w9 w10 w11 w12 w13 w14 w15 : ab_Ob) (kc ks : Nat)
    (h : (∃ r1 : Int, ab_Calls d 0 0 mX8_hasPiece [ab_O 0] [w0, w1, w2, w3, w4, w5, w6, w7, w8, w9, w10, w11, w12, w13, w14, w15] (some (ab_I r1)) [w0, w1, w2, w3, w4, w5, w6, w7, w8, w9, w10, w11, w12, w13, w14, w15] ∧ ((r1 = 0 → (((0 : Int) = 0 ∨ (0 : Int) = 1) ∧ Post (some (ab_I 0)) [w0, w1, w2, w3, w4, w5, w6, w7, w8, w9, w10, w11, w12, w13, w14, w15])) ∧ (¬ r1 = 0 → ((a1 < 0 → (((0 : Int) = 0 ∨ (0 : Int) = 1) ∧ Post (some (ab_I 0)) [w0, w1, w2, w3, w4, w5, w6, w7, w8, w9, w10, w11, w12, w13, w14, w15])) ∧ (¬ a1 < 0 → ((6 ≤ a1 → (((0 : Int) = 0 ∨ (0 : Int) = 1) ∧ Post (some (ab_I 0)) [w0, w1, w2, w3, w4, w5, w6, w7, w8, w9, w10, w11, w12, w13, w14, w15])) ∧ (¬ 6 ≤ a1 → (((1 : Int) = 0 ∨ (1 : Int) = 1) ∧ Post (some (ab_I 1)) [w0, w1, w2, w3, w4, w5, w6, w7, w8, w9, w10, w11, w12, w13, w14, w15]))))))))) :
    ab_J x 0 [some (ab_O 0), some (ab_I a1)] [] [w0, w1, w2, w3, w4, w5, w6, w7, w8, w9, w10, w11, w12, w13, w14, w15] kc ks := ab_go hx kX8_hasRule.2 15 [] 0 h
def mX8_weight : ab_M := ((yX8_weight, cX8_weight, 2, (some .int)), ([8, 4, 5, 5, 0, 1, 2, 7, 6, 1, 7, 7, 7, 7, 3, 3], [(0, 0), (0, 1), (0, 2), (0, 3), (0, 4), (0, 5), (0, 6), (0, 7), (0, 8), (0, 9), (0, 10), (0, 11), (0, 12), (0, 13), (0, 14), (0, 15)], [true, false, false, false, false, false, false, false, false, false, false, false, false, false, false, false], false, false, 0), (false, 8, 1))
def rX8_weight : List ab_R := [(0, .aload_n 0, 1, 0, 0, 0, [], none),
  (1, .iload_n 1, 1, 0, 0, 0, [], none),
  (2, .invokevirtual 178, 3, 0, 0, 0, [], some mX8_hasRule),
  (5, .ifCond .eq 19, 3, 0, 0, 0, [24], none),
  (8, .aload_n 0, 1, 0, 0, 0, [], none),
  (9, .aload_n 0, 1, 0, 0, 0, [], none),
  (10, .getfield 23, 3, 8, 2, 0, [], none),
  (13, .getfield 181, 3, 5, 6, 0, [], none),
  (16, .iload_n 1, 1, 0, 0, 0, [], none),
  (17, .iaload, 1, 0, 0, 0, [], none),
  (18, .invokevirtual 124, 3, 0, 0, 0, [], some mX8_grant),
  (21, .goto 8, 3, 0, 0, 0, [29], none),
  (24, .aload_n 0, 1, 0, 0, 0, [], none),
  (25, .iconst 1, 1, 0, 0, 0, [], none),
  (26, .invokevirtual 101, 3, 0, 0, 0, [], some mX8_refuse),
  (29, .ireturn, 1, 0, 0, 0, [], none)]
set_option maxRecDepth 100000 in
theorem kX8_weight : ab_def_ok mX8_weight rX8_weight := ⟨ab_mok_of 742 101 740 741 (by decide +kernel), [0, 0, 743, 0, 0, 0, 393, 162, 0, 0, 620, 0, 0, 0, 455, 0], by decide +kernel⟩
set_option maxRecDepth 100000 in
theorem vX8_weight_0 {x : ab_Cx} {d mc ms : Nat} {Post : Option ab_V → List ab_Ob → Prop} (hx : ab_At x mX8_weight d mc ms Post) (a1 : Int) (w0 w1 w2 w3 w4 w5 w6 w7 w8 w9 w10 w11 w12 w13 w14 w15 : ab_Ob) (kc ks : Nat)
    (h : (∃ r1 : Int, ab_Calls d 0 0 mX8_hasRule [ab_O 0, ab_I a1] [w0, w1, w2, w3, w4, w5, w6, w7, w8, w9, w10, w11, w12, w13, w14, w15] (some (ab_I r1)) [w0, w1, w2, w3, w4, w5, w6, w7, w8, w9, w10, w11, w12, w13, w14, w15] ∧ ((r1 = 0 → (∃ r2 : Int, ∃ v3 : ab_Ob, ab_Calls d 0 0 mX8_refuse [ab_O 0, ab_I 1] [w0, w1, w2, w3, w4, w5, w6, w7, w8, w9, w10, w11, w12, w13, w14, w15] (some (ab_I r2)) [v3, w1, w2, w3, w4, w5, w6, w7, w8, w9, w10, w11, w12, w13, w14, w15] ∧ Post (some (ab_I r2)) [v3, w1, w2, w3, w4, w5, w6, w7, w8, w9, w10, w11, w12, w13, w14, w15])) ∧ (¬ r1 = 0 → ((0 ≤ a1 ∧ a1 < (w3.2 6).1) ∧ (∃ r4 : Int, ∃ v5 : ab_Ob, ab_Calls d 0 0 mX8_grant [ab_O 0, ab_I ((w3.2 6).2 a1)] [w0, w1, w2, w3, w4, w5, w6, w7, w8, w9, w10, w11, w12, w13, w14, w15] (some (ab_I r4)) [v5, w1, w2, w3, w4, w5, w6, w7, w8, w9, w10, w11, w12, w13, w14, w15] ∧ Post (some (ab_I r4)) [v5, w1, w2, w3, w4, w5, w6, w7, w8, w9, w10, w11, w12, w13, w14, w15])))))) :
    ab_J x 0 [some (ab_O 0), some (ab_I a1)] [] [w0, w1, w2, w3, w4, w5, w6, w7, w8, w9, w10, w11, w12, w13, w14, w15] kc ks := ab_go hx kX8_weight.2 17 [] 0 h
def mX8_hasSpan : ab_M := ((yX8_hasSpan, cX8_hasSpan, 3, (some .boolean)), ([8, 4, 5, 5, 0, 1, 2, 7, 6, 1, 7, 7, 7, 7, 3, 3], [(0, 0), (0, 1), (0, 2), (0, 3), (0, 4), (0, 5), (0, 6), (0, 7), (0, 8), (0, 9), (0, 10), (0, 11), (0, 12), (0, 13), (0, 14), (0, 15)], [false, false, false, false, false, false, false, false, false, false, false, false, false, false, false, false], false, false, 0), (false, 8, 2))
def rX8_hasSpan : List ab_R := [(0, .iload_n 1, 1, 0, 0, 0, [], none),
  (1, .ifCond .lt 23, 3, 0, 0, 0, [24], none),
  (4, .iload_n 1, 1, 0, 0, 0, [], none),
  (5, .iload_n 2, 1, 0, 0, 0, [], none),
  (6, .if_icmp .gt 18, 3, 0, 0, 0, [24], none),
  (9, .iload_n 2, 1, 0, 0, 0, [], none),
  (10, .aload_n 0, 1, 0, 0, 0, [], none),
  (11, .getfield 23, 3, 8, 2, 0, [], none),
  (14, .getfield 121, 3, 5, 3, 0, [], none),
  (17, .if_icmp .ge 7, 3, 0, 0, 0, [24], none),
  (20, .iconst 1, 1, 0, 0, 0, [], none),
  (21, .goto 4, 3, 0, 0, 0, [25], none),
  (24, .iconst 0, 1, 0, 0, 0, [], none),
  (25, .ireturn, 1, 0, 0, 0, [], none)]
set_option maxRecDepth 100000 in
theorem kX8_hasSpan : ab_def_ok mX8_hasSpan rX8_hasSpan := ⟨ab_mok_of 754 101 753 29 (by decide +kernel), [0, 0, 0, 0, 0, 0, 0, 393, 150, 0, 0, 0, 0, 0], by decide +kernel⟩
set_option maxRecDepth 100000 in
theorem vX8_hasSpan_0 {x : ab_Cx} {d mc ms : Nat} {Post : Option ab_V → List ab_Ob → Prop} (hx : ab_At x mX8_hasSpan d mc ms Post) (a1 a2 : Int) (w0 w1 w2 w3 w4 w5 w6 w7 w8 w9 w10 w11 w12 w13 w14 w15 : ab_Ob) (kc ks : Nat)
    (h : ((a1 < 0 → (((0 : Int) = 0 ∨ (0 : Int) = 1) ∧ Post (some (ab_I 0)) [w0, w1, w2, w3, w4, w5, w6, w7, w8, w9, w10, w11, w12, w13, w14, w15])) ∧ (¬ a1 < 0 → ((a2 < a1 → (((0 : Int) = 0 ∨ (0 : Int) = 1) ∧ Post (some (ab_I 0)) [w0, w1, w2, w3, w4, w5, w6, w7, w8, w9, w10, w11, w12, w13, w14, w15])) ∧ (¬ a2 < a1 → (((w3.1 3) ≤ a2 → (((0 : Int) = 0 ∨ (0 : Int) = 1) ∧ Post (some (ab_I 0)) [w0, w1, w2, w3, w4, w5, w6, w7, w8, w9, w10, w11, w12, w13, w14, w15])) ∧ (¬ (w3.1 3) ≤ a2 → (((1 : Int) = 0 ∨ (1 : Int) = 1) ∧ Post (some (ab_I 1)) [w0, w1, w2, w3, w4, w5, w6, w7, w8, w9, w10, w11, w12, w13, w14, w15])))))))) :
    ab_J x 0 [some (ab_O 0), some (ab_I a1), some (ab_I a2)] [] [w0, w1, w2, w3, w4, w5, w6, w7, w8, w9, w10, w11, w12, w13, w14, w15] kc ks := ab_go hx kX8_hasSpan.2 17 [] 0 h
def mX8_breaks : ab_M := ((yX8_breaks, cX8_breaks, 3, (some .int)), ([8, 4, 5, 5, 0, 1, 2, 7, 6, 1, 7, 7, 7, 7, 3, 3], [(0, 0), (0, 1), (0, 2), (0, 3), (0, 4), (0, 5), (0, 6), (0, 7), (0, 8), (0, 9), (0, 10), (0, 11), (0, 12), (0, 13), (0, 14), (0, 15)], [true, false, false, false, false, true, false, false, false, false, false, false, false, false, false, false], true, true, 0), (false, 8, 2))
def rX8_breaks : List ab_R := [(0, .aload_n 0, 1, 0, 0, 0, [], none),
  (1, .iload_n 1, 1, 0, 0, 0, [], none),
  (2, .iload_n 2, 1, 0, 0, 0, [], none),
  (3, .invokevirtual 184, 3, 0, 0, 0, [], some mX8_hasSpan),
  (6, .ifCond .eq 19, 3, 0, 0, 0, [25], none),
  (9, .aload_n 0, 1, 0, 0, 0, [], none),
  (10, .aload_n 0, 1, 0, 0, 0, [], none),
  (11, .invokevirtual 188, 3, 0, 0, 0, [], some mX8_freshSpans),
  (14, .iload_n 1, 1, 0, 0, 0, [], none),
  (15, .iload_n 2, 1, 0, 0, 0, [], none),
  (16, .invokevirtual 192, 3, 0, 0, 0, [], some mX1_least),
  (19, .invokevirtual 124, 3, 0, 0, 0, [], some mX8_grant),
  (22, .goto 8, 3, 0, 0, 0, [30], none),
  (25, .aload_n 0, 1, 0, 0, 0, [], none),
  (26, .iconst 1, 1, 0, 0, 0, [], none),
  (27, .invokevirtual 101, 3, 0, 0, 0, [], some mX8_refuse),
  (30, .ireturn, 1, 0, 0, 0, [], none)]
set_option maxRecDepth 100000 in
theorem kX8_breaks : ab_def_ok mX8_breaks rX8_breaks := ⟨ab_mok_of 750 101 748 749 (by decide +kernel), [0, 0, 0, 751, 0, 0, 0, 660, 0, 0, 755, 620, 0, 0, 0, 455, 0], by decide +kernel⟩
set_option maxRecDepth 100000 in
theorem vX8_breaks_0 {x : ab_Cx} {d mc ms : Nat} {Post : Option ab_V → List ab_Ob → Prop} (hx : ab_At x mX8_breaks d mc ms Post) (a1 a2 : Int) (w0 w1 w2 w3 w4 w5 w6 w7 w8 w9 w10 w11 w12 w13 w14 w15 : ab_Ob) (kc ks : Nat)
    (h : (∃ r1 : Int, ab_Calls d 0 0 mX8_hasSpan [ab_O 0, ab_I a1, ab_I a2] [w0, w1, w2, w3, w4, w5, w6, w7, w8, w9, w10, w11, w12, w13, w14, w15] (some (ab_I r1)) [w0, w1, w2, w3, w4, w5, w6, w7, w8, w9, w10, w11, w12, w13, w14, w15] ∧ ((r1 = 0 → (∃ r2 : Int, ∃ v3 : ab_Ob, ab_Calls d 0 0 mX8_refuse [ab_O 0, ab_I 1] [w0, w1, w2, w3, w4, w5, w6, w7, w8, w9, w10, w11, w12, w13, w14, w15] (some (ab_I r2)) [v3, w1, w2, w3, w4, w5, w6, w7, w8, w9, w10, w11, w12, w13, w14, w15] ∧ Post (some (ab_I r2)) [v3, w1, w2, w3, w4, w5, w6, w7, w8, w9, w10, w11, w12, w13, w14, w15])) ∧ (¬ r1 = 0 → (∃ mc4 ms5 : Nat, (kc + mc4 ≤ mc ∧ ks + ms5 ≤ ms) ∧ ∃ v6 : ab_Ob, ∃ v7 : ab_Ob, ab_Calls d mc4 ms5 mX8_freshSpans [ab_O 0] [w0, w1, w2, w3, w4, w5, w6, w7, w8, w9, w10, w11, w12, w13, w14, w15] (some (ab_O 5)) [v6, w1, w2, w3, w4, v7, w6, w7, w8, w9, w10, w11, w12, w13, w14, w15] ∧ (∃ r8 : Int, ab_Calls d 0 0 mX1_least [ab_O 0, ab_I a1, ab_I a2] [v7] (some (ab_I r8)) [v7] ∧ (∃ r9 : Int, ∃ v10 : ab_Ob, ab_Calls d 0 0 mX8_grant [ab_O 0, ab_I r8] [v6, w1, w2, w3, w4, v7, w6, w7, w8, w9, w10, w11, w12, w13, w14, w15] (some (ab_I r9)) [v10, w1, w2, w3, w4, v7, w6, w7, w8, w9, w10, w11, w12, w13, w14, w15] ∧ Post (some (ab_I r9)) [v10, w1, w2, w3, w4, v7, w6, w7, w8, w9, w10, w11, w12, w13, w14, w15]))))))) :
    ab_J x 0 [some (ab_O 0), some (ab_I a1), some (ab_I a2)] [] [w0, w1, w2, w3, w4, w5, w6, w7, w8, w9, w10, w11, w12, w13, w14, w15] kc ks := ab_go hx kX8_breaks.2 18 [] 0 h
def mX8_head : ab_M := ((yX8_head, cX8_head, 3, (some .int)), ([8, 4, 5, 5, 0, 1, 2, 7, 6, 1, 7, 7, 7, 7, 3, 3], [(0, 0), (0, 1), (0, 2), (0, 3), (0, 4), (0, 5), (0, 6), (0, 7), (0, 8), (0, 9), (0, 10), (0, 11), (0, 12), (0, 13), (0, 14), (0, 15)], [true, false, false, false, false, true, false, false, false, false, false, false, false, false, false, false], true, true, 0), (false, 8, 2))
def rX8_head : List ab_R := [(0, .aload_n 0, 1, 0, 0, 0, [], none),
  (1, .iload_n 1, 1, 0, 0, 0, [], none),
  (2, .iload_n 2, 1, 0, 0, 0, [], none),
  (3, .invokevirtual 184, 3, 0, 0, 0, [], some mX8_hasSpan),
  (6, .ifCond .eq 19, 3, 0, 0, 0, [25], none),
  (9, .aload_n 0, 1, 0, 0, 0, [], none),
  (10, .aload_n 0, 1, 0, 0, 0, [], none),
  (11, .invokevirtual 188, 3, 0, 0, 0, [], some mX8_freshSpans),
  (14, .iload_n 1, 1, 0, 0, 0, [], none),
  (15, .iload_n 2, 1, 0, 0, 0, [], none),
  (16, .invokevirtual 195, 3, 0, 0, 0, [], some mX1_bestHead),
  (19, .invokevirtual 124, 3, 0, 0, 0, [], some mX8_grant),
  (22, .goto 8, 3, 0, 0, 0, [30], none),
  (25, .aload_n 0, 1, 0, 0, 0, [], none),
  (26, .iconst 1, 1, 0, 0, 0, [], none),
  (27, .invokevirtual 101, 3, 0, 0, 0, [], some mX8_refuse),
  (30, .ireturn, 1, 0, 0, 0, [], none)]
set_option maxRecDepth 100000 in
theorem kX8_head : ab_def_ok mX8_head rX8_head := ⟨ab_mok_of 763 101 761 762 (by decide +kernel), [0, 0, 0, 751, 0, 0, 0, 660, 0, 0, 764, 620, 0, 0, 0, 455, 0], by decide +kernel⟩
set_option maxRecDepth 100000 in
theorem vX8_head_0 {x : ab_Cx} {d mc ms : Nat} {Post : Option ab_V → List ab_Ob → Prop} (hx : ab_At x mX8_head d mc ms Post) (a1 a2 : Int) (w0 w1 w2 w3 w4 w5 w6 w7 w8 w9 w10 w11 w12 w13 w14 w15 : ab_Ob) (kc ks : Nat)
    (h : (∃ r1 : Int, ab_Calls d 0 0 mX8_hasSpan [ab_O 0, ab_I a1, ab_I a2] [w0, w1, w2, w3, w4, w5, w6, w7, w8, w9, w10, w11, w12, w13, w14, w15] (some (ab_I r1)) [w0, w1, w2, w3, w4, w5, w6, w7, w8, w9, w10, w11, w12, w13, w14, w15] ∧ ((r1 = 0 → (∃ r2 : Int, ∃ v3 : ab_Ob, ab_Calls d 0 0 mX8_refuse [ab_O 0, ab_I 1] [w0, w1, w2, w3, w4, w5, w6, w7, w8, w9, w10, w11, w12, w13, w14, w15] (some (ab_I r2)) [v3, w1, w2, w3, w4, w5, w6, w7, w8, w9, w10, w11, w12, w13, w14, w15] ∧ Post (some (ab_I r2)) [v3, w1, w2, w3, w4, w5, w6, w7, w8, w9, w10, w11, w12, w13, w14, w15])) ∧ (¬ r1 = 0 → (∃ mc4 ms5 : Nat, (kc + mc4 ≤ mc ∧ ks + ms5 ≤ ms) ∧ ∃ v6 : ab_Ob, ∃ v7 : ab_Ob, ab_Calls d mc4 ms5 mX8_freshSpans [ab_O 0] [w0, w1, w2, w3, w4, w5, w6, w7, w8, w9, w10, w11, w12, w13, w14, w15] (some (ab_O 5)) [v6, w1, w2, w3, w4, v7, w6, w7, w8, w9, w10, w11, w12, w13, w14, w15] ∧ (∃ r8 : Int, ab_Calls d 0 0 mX1_bestHead [ab_O 0, ab_I a1, ab_I a2] [v7] (some (ab_I r8)) [v7] ∧ (∃ r9 : Int, ∃ v10 : ab_Ob, ab_Calls d 0 0 mX8_grant [ab_O 0, ab_I r8] [v6, w1, w2, w3, w4, v7, w6, w7, w8, w9, w10, w11, w12, w13, w14, w15] (some (ab_I r9)) [v10, w1, w2, w3, w4, v7, w6, w7, w8, w9, w10, w11, w12, w13, w14, w15] ∧ Post (some (ab_I r9)) [v10, w1, w2, w3, w4, v7, w6, w7, w8, w9, w10, w11, w12, w13, w14, w15]))))))) :
    ab_J x 0 [some (ab_O 0), some (ab_I a1), some (ab_I a2)] [] [w0, w1, w2, w3, w4, w5, w6, w7, w8, w9, w10, w11, w12, w13, w14, w15] kc ks := ab_go hx kX8_head.2 18 [] 0 h
def mX8_split : ab_M := ((yX8_split, cX8_split, 4, (some .int)), ([8, 4, 5, 5, 0, 1, 2, 7, 6, 1, 7, 7, 7, 7, 3, 3], [(0, 0), (0, 1), (0, 2), (0, 3), (0, 4), (0, 5), (0, 6), (0, 7), (0, 8), (0, 9), (0, 10), (0, 11), (0, 12), (0, 13), (0, 14), (0, 15)], [true, false, false, false, false, true, false, false, false, false, false, false, false, false, false, false], true, true, 0), (false, 8, 2))
def rX8_split : List ab_R := [(0, .aload_n 0, 1, 0, 0, 0, [], none),
  (1, .iload_n 1, 1, 0, 0, 0, [], none),
  (2, .iload_n 2, 1, 0, 0, 0, [], none),
  (3, .invokevirtual 184, 3, 0, 0, 0, [], some mX8_hasSpan),
  (6, .ifCond .ne 9, 3, 0, 0, 0, [15], none),
  (9, .aload_n 0, 1, 0, 0, 0, [], none),
  (10, .iconst 1, 1, 0, 0, 0, [], none),
  (11, .invokevirtual 101, 3, 0, 0, 0, [], some mX8_refuse),
  (14, .ireturn, 1, 0, 0, 0, [], none),
  (15, .iload_n 1, 1, 0, 0, 0, [], none),
  (16, .iload_n 2, 1, 0, 0, 0, [], none),
  (17, .if_icmp .ne 10, 3, 0, 0, 0, [27], none),
  (20, .aload_n 0, 1, 0, 0, 0, [], none),
  (21, .bipush (-2), 2, 0, 0, 0, [], none),
  (23, .invokevirtual 124, 3, 0, 0, 0, [], some mX8_grant),
  (26, .ireturn, 1, 0, 0, 0, [], none),
  (27, .aload_n 0, 1, 0, 0, 0, [], none),
  (28, .invokevirtual 188, 3, 0, 0, 0, [], some mX8_freshSpans),
  (31, .astore_n 3, 1, 0, 0, 0, [], none),
  (32, .aload_n 0, 1, 0, 0, 0, [], none),
  (33, .aload_n 3, 1, 0, 0, 0, [], none),
  (34, .iload_n 1, 1, 0, 0, 0, [], none),
  (35, .iload_n 2, 1, 0, 0, 0, [], none),
  (36, .aload_n 3, 1, 0, 0, 0, [], none),
  (37, .iload_n 1, 1, 0, 0, 0, [], none),
  (38, .iload_n 2, 1, 0, 0, 0, [], none),
  (39, .invokevirtual 195, 3, 0, 0, 0, [], some mX1_bestHead),
  (42, .invokevirtual 198, 3, 0, 0, 0, [], some mX1_bestSplit),
  (45, .invokevirtual 124, 3, 0, 0, 0, [], some mX8_grant),
  (48, .ireturn, 1, 0, 0, 0, [], none)]
set_option maxRecDepth 100000 in
theorem kX8_split : ab_def_ok mX8_split rX8_split := ⟨ab_mok_of 768 101 766 767 (by decide +kernel), [0, 0, 0, 751, 0, 0, 0, 455, 0, 0, 0, 0, 0, 0, 620, 0, 0, 660, 0, 0, 0, 0, 0, 0, 0, 0, 764, 769, 620, 0], by decide +kernel⟩
set_option maxRecDepth 100000 in
theorem vX8_split_0 {x : ab_Cx} {d mc ms : Nat} {Post : Option ab_V → List ab_Ob → Prop} (hx : ab_At x mX8_split d mc ms Post) (a1 a2 : Int) (w0 w1 w2 w3 w4 w5 w6 w7 w8 w9 w10 w11 w12 w13 w14 w15 : ab_Ob) (kc ks : Nat)
    (h : (∃ r1 : Int, ab_Calls d 0 0 mX8_hasSpan [ab_O 0, ab_I a1, ab_I a2] [w0, w1, w2, w3, w4, w5, w6, w7, w8, w9, w10, w11, w12, w13, w14, w15] (some (ab_I r1)) [w0, w1, w2, w3, w4, w5, w6, w7, w8, w9, w10, w11, w12, w13, w14, w15] ∧ ((¬ r1 = 0 → ((¬ a1 = a2 → (∃ mc2 ms3 : Nat, (kc + mc2 ≤ mc ∧ ks + ms3 ≤ ms) ∧ ∃ v4 : ab_Ob, ∃ v5 : ab_Ob, ab_Calls d mc2 ms3 mX8_freshSpans [ab_O 0] [w0, w1, w2, w3, w4, w5, w6, w7, w8, w9, w10, w11, w12, w13, w14, w15] (some (ab_O 5)) [v4, w1, w2, w3, w4, v5, w6, w7, w8, w9, w10, w11, w12, w13, w14, w15] ∧ (∃ r6 : Int, ab_Calls d 0 0 mX1_bestHead [ab_O 0, ab_I a1, ab_I a2] [v5] (some (ab_I r6)) [v5] ∧ (∃ r7 : Int, ab_Calls d 0 0 mX1_bestSplit [ab_O 0, ab_I a1, ab_I a2, ab_I r6] [v5] (some (ab_I r7)) [v5] ∧ (∃ r8 : Int, ∃ v9 : ab_Ob, ab_Calls d 0 0 mX8_grant [ab_O 0, ab_I r7] [v4, w1, w2, w3, w4, v5, w6, w7, w8, w9, w10, w11, w12, w13, w14, w15] (some (ab_I r8)) [v9, w1, w2, w3, w4, v5, w6, w7, w8, w9, w10, w11, w12, w13, w14, w15] ∧ Post (some (ab_I r8)) [v9, w1, w2, w3, w4, v5, w6, w7, w8, w9, w10, w11, w12, w13, w14, w15]))))) ∧ (a1 = a2 → (∃ r10 : Int, ∃ v11 : ab_Ob, ab_Calls d 0 0 mX8_grant [ab_O 0, ab_I (-2)] [w0, w1, w2, w3, w4, w5, w6, w7, w8, w9, w10, w11, w12, w13, w14, w15] (some (ab_I r10)) [v11, w1, w2, w3, w4, w5, w6, w7, w8, w9, w10, w11, w12, w13, w14, w15] ∧ Post (some (ab_I r10)) [v11, w1, w2, w3, w4, w5, w6, w7, w8, w9, w10, w11, w12, w13, w14, w15])))) ∧ (r1 = 0 → (∃ r12 : Int, ∃ v13 : ab_Ob, ab_Calls d 0 0 mX8_refuse [ab_O 0, ab_I 1] [w0, w1, w2, w3, w4, w5, w6, w7, w8, w9, w10, w11, w12, w13, w14, w15] (some (ab_I r12)) [v13, w1, w2, w3, w4, w5, w6, w7, w8, w9, w10, w11, w12, w13, w14, w15] ∧ Post (some (ab_I r12)) [v13, w1, w2, w3, w4, w5, w6, w7, w8, w9, w10, w11, w12, w13, w14, w15]))))) :
    ab_J x 0 [some (ab_O 0), some (ab_I a1), some (ab_I a2), none] [] [w0, w1, w2, w3, w4, w5, w6, w7, w8, w9, w10, w11, w12, w13, w14, w15] kc ks := ab_go hx kX8_split.2 26 [] 0 h
def mX8_breaksBy : ab_M := ((yX8_breaksBy, cX8_breaksBy, 4, (some .int)), ([8, 4, 5, 5, 0, 1, 2, 7, 6, 1, 7, 7, 7, 7, 3, 3], [(0, 0), (0, 1), (0, 2), (0, 3), (0, 4), (0, 5), (0, 6), (0, 7), (0, 8), (0, 9), (0, 10), (0, 11), (0, 12), (0, 13), (0, 14), (0, 15)], [true, false, false, false, false, true, false, false, false, false, false, false, false, false, false, false], true, true, 0), (false, 8, 3))
def rX8_breaksBy : List ab_R := [(0, .aload_n 0, 1, 0, 0, 0, [], none),
  (1, .iload_n 1, 1, 0, 0, 0, [], none),
  (2, .iload_n 2, 1, 0, 0, 0, [], none),
  (3, .invokevirtual 184, 3, 0, 0, 0, [], some mX8_hasSpan),
  (6, .ifCond .eq 13, 3, 0, 0, 0, [19], none),
  (9, .iload_n 3, 1, 0, 0, 0, [], none),
  (10, .iload_n 1, 1, 0, 0, 0, [], none),
  (11, .if_icmp .lt 8, 3, 0, 0, 0, [19], none),
  (14, .iload_n 3, 1, 0, 0, 0, [], none),
  (15, .iload_n 2, 1, 0, 0, 0, [], none),
  (16, .if_icmp .le 9, 3, 0, 0, 0, [25], none),
  (19, .aload_n 0, 1, 0, 0, 0, [], none),
  (20, .iconst 1, 1, 0, 0, 0, [], none),
  (21, .invokevirtual 101, 3, 0, 0, 0, [], some mX8_refuse),
  (24, .ireturn, 1, 0, 0, 0, [], none),
  (25, .aload_n 0, 1, 0, 0, 0, [], none),
  (26, .aload_n 0, 1, 0, 0, 0, [], none),
  (27, .invokevirtual 188, 3, 0, 0, 0, [], some mX8_freshSpans),
  (30, .iload_n 1, 1, 0, 0, 0, [], none),
  (31, .iload_n 2, 1, 0, 0, 0, [], none),
  (32, .iload_n 3, 1, 0, 0, 0, [], none),
  (33, .invokevirtual 202, 3, 0, 0, 0, [], some mX1_cell),
  (36, .invokevirtual 124, 3, 0, 0, 0, [], some mX8_grant),
  (39, .ireturn, 1, 0, 0, 0, [], none)]
set_option maxRecDepth 100000 in
theorem kX8_breaksBy : ab_def_ok mX8_breaksBy rX8_breaksBy := ⟨ab_mok_of 773 101 771 772 (by decide +kernel), [0, 0, 0, 751, 0, 0, 0, 0, 0, 0, 0, 0, 0, 455, 0, 0, 0, 660, 0, 0, 0, 774, 620, 0], by decide +kernel⟩
set_option maxRecDepth 100000 in
theorem vX8_breaksBy_0 {x : ab_Cx} {d mc ms : Nat} {Post : Option ab_V → List ab_Ob → Prop} (hx : ab_At x mX8_breaksBy d mc ms Post) (a1 a2 a3 : Int) (w0 w1 w2 w3 w4 w5 w6 w7 w8 w9 w10 w11 w12 w13 w14 w15 : ab_Ob) (kc ks : Nat)
    (h : (∃ r1 : Int, ab_Calls d 0 0 mX8_hasSpan [ab_O 0, ab_I a1, ab_I a2] [w0, w1, w2, w3, w4, w5, w6, w7, w8, w9, w10, w11, w12, w13, w14, w15] (some (ab_I r1)) [w0, w1, w2, w3, w4, w5, w6, w7, w8, w9, w10, w11, w12, w13, w14, w15] ∧ ((r1 = 0 → (∃ r2 : Int, ∃ v3 : ab_Ob, ab_Calls d 0 0 mX8_refuse [ab_O 0, ab_I 1] [w0, w1, w2, w3, w4, w5, w6, w7, w8, w9, w10, w11, w12, w13, w14, w15] (some (ab_I r2)) [v3, w1, w2, w3, w4, w5, w6, w7, w8, w9, w10, w11, w12, w13, w14, w15] ∧ Post (some (ab_I r2)) [v3, w1, w2, w3, w4, w5, w6, w7, w8, w9, w10, w11, w12, w13, w14, w15])) ∧ (¬ r1 = 0 → ((a3 < a1 → (∃ r4 : Int, ∃ v5 : ab_Ob, ab_Calls d 0 0 mX8_refuse [ab_O 0, ab_I 1] [w0, w1, w2, w3, w4, w5, w6, w7, w8, w9, w10, w11, w12, w13, w14, w15] (some (ab_I r4)) [v5, w1, w2, w3, w4, w5, w6, w7, w8, w9, w10, w11, w12, w13, w14, w15] ∧ Post (some (ab_I r4)) [v5, w1, w2, w3, w4, w5, w6, w7, w8, w9, w10, w11, w12, w13, w14, w15])) ∧ (¬ a3 < a1 → ((a3 ≤ a2 → (∃ mc6 ms7 : Nat, (kc + mc6 ≤ mc ∧ ks + ms7 ≤ ms) ∧ ∃ v8 : ab_Ob, ∃ v9 : ab_Ob, ab_Calls d mc6 ms7 mX8_freshSpans [ab_O 0] [w0, w1, w2, w3, w4, w5, w6, w7, w8, w9, w10, w11, w12, w13, w14, w15] (some (ab_O 5)) [v8, w1, w2, w3, w4, v9, w6, w7, w8, w9, w10, w11, w12, w13, w14, w15] ∧ (∃ r10 : Int, ab_Calls d 0 0 mX1_cell [ab_O 0, ab_I a1, ab_I a2, ab_I a3] [v9] (some (ab_I r10)) [v9] ∧ (∃ r11 : Int, ∃ v12 : ab_Ob, ab_Calls d 0 0 mX8_grant [ab_O 0, ab_I r10] [v8, w1, w2, w3, w4, v9, w6, w7, w8, w9, w10, w11, w12, w13, w14, w15] (some (ab_I r11)) [v12, w1, w2, w3, w4, v9, w6, w7, w8, w9, w10, w11, w12, w13, w14, w15] ∧ Post (some (ab_I r11)) [v12, w1, w2, w3, w4, v9, w6, w7, w8, w9, w10, w11, w12, w13, w14, w15])))) ∧ (¬ a3 ≤ a2 → (∃ r13 : Int, ∃ v14 : ab_Ob, ab_Calls d 0 0 mX8_refuse [ab_O 0, ab_I 1] [w0, w1, w2, w3, w4, w5, w6, w7, w8, w9, w10, w11, w12, w13, w14, w15] (some (ab_I r13)) [v14, w1, w2, w3, w4, w5, w6, w7, w8, w9, w10, w11, w12, w13, w14, w15] ∧ Post (some (ab_I r13)) [v14, w1, w2, w3, w4, w5, w6, w7, w8, w9, w10, w11, w12, w13, w14, w15]))))))))) :
    ab_J x 0 [some (ab_O 0), some (ab_I a1), some (ab_I a2), some (ab_I a3)] [] [w0, w1, w2, w3, w4, w5, w6, w7, w8, w9, w10, w11, w12, w13, w14, w15] kc ks := ab_go hx kX8_breaksBy.2 24 [] 0 h
def mX8_ways : ab_M := ((yX8_ways, cX8_ways, 4, (some .long)), ([8, 4, 5, 5, 0, 1, 2, 7, 6, 1, 7, 7, 7, 7, 3, 3], [(0, 0), (0, 1), (0, 2), (0, 3), (0, 4), (0, 5), (0, 6), (0, 7), (0, 8), (0, 9), (0, 10), (0, 11), (0, 12), (0, 13), (0, 14), (0, 15)], [true, false, false, false, false, true, true, false, false, false, false, false, false, false, false, false], true, true, 0), (false, 8, 2))
def rX8_ways : List ab_R := [(0, .aload_n 0, 1, 0, 0, 0, [], none),
  (1, .iload_n 1, 1, 0, 0, 0, [], none),
  (2, .iload_n 2, 1, 0, 0, 0, [], none),
  (3, .invokevirtual 184, 3, 0, 0, 0, [], some mX8_hasSpan),
  (6, .ifCond .ne 10, 3, 0, 0, 0, [16], none),
  (9, .aload_n 0, 1, 0, 0, 0, [], none),
  (10, .iconst 1, 1, 0, 0, 0, [], none),
  (11, .invokevirtual 101, 3, 0, 0, 0, [], some mX8_refuse),
  (14, .i2l, 1, 0, 0, 0, [], none),
  (15, .lreturn, 1, 0, 0, 0, [], none),
  (16, .aload_n 0, 1, 0, 0, 0, [], none),
  (17, .iconst 0, 1, 0, 0, 0, [], none),
  (18, .putfield 9, 3, 8, 0, 0, [], none),
  (21, .aload_n 0, 1, 0, 0, 0, [], none),
  (22, .invokevirtual 188, 3, 0, 0, 0, [], some mX8_freshSpans),
  (25, .astore_n 3, 1, 0, 0, 0, [], none),
  (26, .aload_n 0, 1, 0, 0, 0, [], none),
  (27, .getfield 52, 3, 8, 7, 0, [], none),
  (30, .ifCond .ne 16, 3, 0, 0, 0, [46], none),
  (33, .aload_n 0, 1, 0, 0, 0, [], none),
  (34, .getfield 48, 3, 8, 6, 0, [], none),
  (37, .aload_n 3, 1, 0, 0, 0, [], none),
  (38, .invokevirtual 205, 3, 0, 0, 0, [], some mX2_fill),
  (41, .aload_n 0, 1, 0, 0, 0, [], none),
  (42, .iconst 1, 1, 0, 0, 0, [], none),
  (43, .putfield 52, 3, 8, 7, 0, [], none),
  (46, .aload_n 0, 1, 0, 0, 0, [], none),
  (47, .getfield 48, 3, 8, 6, 0, [], none),
  (50, .aload_n 3, 1, 0, 0, 0, [], none),
  (51, .iload_n 1, 1, 0, 0, 0, [], none),
  (52, .iload_n 2, 1, 0, 0, 0, [], none),
  (53, .invokevirtual 209, 3, 0, 0, 0, [], some mX2_ofBest),
  (56, .ldc2_w 213, 3, 0, 1000000000000, 0, [], none),
  (59, .invokestatic 215, 3, 0, 0, 13, [], none),
  (62, .lreturn, 1, 0, 0, 0, [], none)]
set_option maxRecDepth 100000 in
theorem kX8_ways : ab_def_ok mX8_ways rX8_ways := ⟨ab_mok_of 778 101 776 777 (by decide +kernel), [0, 0, 0, 751, 0, 0, 0, 455, 0, 0, 0, 0, 391, 0, 660, 0, 0, 398, 0, 0, 397, 0, 779, 0, 0, 398, 0, 397, 0, 0, 0, 799, 804, 805, 0], by decide +kernel⟩
set_option maxRecDepth 100000 in
theorem vX8_ways_0 {x : ab_Cx} {d mc ms : Nat} {Post : Option ab_V → List ab_Ob → Prop} (hx : ab_At x mX8_ways d mc ms Post) (a1 a2 : Int) (w0 w1 w2 w3 w4 w5 w6 w7 w8 w9 w10 w11 w12 w13 w14 w15 : ab_Ob) (kc ks : Nat)
    (h : (∃ r1 : Int, ab_Calls d 0 0 mX8_hasSpan [ab_O 0, ab_I a1, ab_I a2] [w0, w1, w2, w3, w4, w5, w6, w7, w8, w9, w10, w11, w12, w13, w14, w15] (some (ab_I r1)) [w0, w1, w2, w3, w4, w5, w6, w7, w8, w9, w10, w11, w12, w13, w14, w15] ∧ ((¬ r1 = 0 → (∃ mc2 ms3 : Nat, (kc + mc2 ≤ mc ∧ ks + ms3 ≤ ms) ∧ ∃ v4 : ab_Ob, ∃ v5 : ab_Ob, ab_Calls d mc2 ms3 mX8_freshSpans [ab_O 0] [(ab_pf w0 0 0), w1, w2, w3, w4, w5, w6, w7, w8, w9, w10, w11, w12, w13, w14, w15] (some (ab_O 5)) [v4, w1, w2, w3, w4, v5, w6, w7, w8, w9, w10, w11, w12, w13, w14, w15] ∧ ((¬ (v4.1 7) = 0 → (∃ r6 : Int, ab_Calls d 0 0 mX2_ofBest [ab_O 0, ab_O 1, ab_I a1, ab_I a2] [w6, v5] (some (ab_L r6)) [w6, v5] ∧ Post (some (ab_L (if 1000000000000 < r6 then 1000000000000 else r6))) [v4, w1, w2, w3, w4, v5, w6, w7, w8, w9, w10, w11, w12, w13, w14, w15])) ∧ ((v4.1 7) = 0 → (∃ mc7 ms8 : Nat, ((kc + mc2) + mc7 ≤ mc ∧ (ks + ms3) + ms8 ≤ ms) ∧ ∃ v9 : ab_Ob, ab_Calls d mc7 ms8 mX2_fill [ab_O 0, ab_O 1] [w6, v5] none [v9, v5] ∧ (((1 : Int) = 0 ∨ (1 : Int) = 1) ∧ (∃ r10 : Int, ab_Calls d 0 0 mX2_ofBest [ab_O 0, ab_O 1, ab_I a1, ab_I a2] [v9, v5] (some (ab_L r10)) [v9, v5] ∧ Post (some (ab_L (if 1000000000000 < r10 then 1000000000000 else r10))) [(ab_pf v4 7 1), w1, w2, w3, w4, v5, v9, w7, w8, w9, w10, w11, w12, w13, w14, w15]))))))) ∧ (r1 = 0 → (∃ r11 : Int, ∃ v12 : ab_Ob, ab_Calls d 0 0 mX8_refuse [ab_O 0, ab_I 1] [w0, w1, w2, w3, w4, w5, w6, w7, w8, w9, w10, w11, w12, w13, w14, w15] (some (ab_I r11)) [v12, w1, w2, w3, w4, w5, w6, w7, w8, w9, w10, w11, w12, w13, w14, w15] ∧ Post (some (ab_L r11)) [v12, w1, w2, w3, w4, w5, w6, w7, w8, w9, w10, w11, w12, w13, w14, w15]))))) :
    ab_J x 0 [some (ab_O 0), some (ab_I a1), some (ab_I a2), none] [] [w0, w1, w2, w3, w4, w5, w6, w7, w8, w9, w10, w11, w12, w13, w14, w15] kc ks := ab_go hx kX8_ways.2 34 [] 0 h
def mX8_splitCost : ab_M := ((yX8_splitCost, cX8_splitCost, 5, (some .int)), ([8, 4, 5, 5, 0, 1, 2, 7, 6, 1, 7, 7, 7, 7, 3, 3], [(0, 0), (0, 1), (0, 2), (0, 3), (0, 4), (0, 5), (0, 6), (0, 7), (0, 8), (0, 9), (0, 10), (0, 11), (0, 12), (0, 13), (0, 14), (0, 15)], [true, false, false, false, false, true, false, false, false, false, false, false, false, false, false, false], true, true, 0), (false, 8, 3))
def rX8_splitCost : List ab_R := [(0, .aload_n 0, 1, 0, 0, 0, [], none),
  (1, .iload_n 1, 1, 0, 0, 0, [], none),
  (2, .iload_n 2, 1, 0, 0, 0, [], none),
  (3, .invokevirtual 184, 3, 0, 0, 0, [], some mX8_hasSpan),
  (6, .ifCond .eq 13, 3, 0, 0, 0, [19], none),
  (9, .iload_n 3, 1, 0, 0, 0, [], none),
  (10, .iload_n 1, 1, 0, 0, 0, [], none),
  (11, .if_icmp .lt 8, 3, 0, 0, 0, [19], none),
  (14, .iload_n 3, 1, 0, 0, 0, [], none),
  (15, .iload_n 2, 1, 0, 0, 0, [], none),
  (16, .if_icmp .lt 9, 3, 0, 0, 0, [25], none),
  (19, .aload_n 0, 1, 0, 0, 0, [], none),
  (20, .iconst 1, 1, 0, 0, 0, [], none),
  (21, .invokevirtual 101, 3, 0, 0, 0, [], some mX8_refuse),
  (24, .ireturn, 1, 0, 0, 0, [], none),
  (25, .aload_n 0, 1, 0, 0, 0, [], none),
  (26, .invokevirtual 188, 3, 0, 0, 0, [], some mX8_freshSpans),
  (29, .astore 4, 2, 0, 0, 0, [], none),
  (31, .aload_n 0, 1, 0, 0, 0, [], none),
  (32, .aload 4, 2, 0, 0, 0, [], none),
  (34, .iload_n 1, 1, 0, 0, 0, [], none),
  (35, .iload_n 2, 1, 0, 0, 0, [], none),
  (36, .iload_n 3, 1, 0, 0, 0, [], none),
  (37, .invokevirtual 221, 3, 0, 0, 0, [], some mX1_leastSplitAt),
  (40, .aload 4, 2, 0, 0, 0, [], none),
  (42, .iload_n 1, 1, 0, 0, 0, [], none),
  (43, .iload_n 2, 1, 0, 0, 0, [], none),
  (44, .invokevirtual 192, 3, 0, 0, 0, [], some mX1_least),
  (47, .isub, 1, 0, 0, 0, [], none),
  (48, .invokevirtual 124, 3, 0, 0, 0, [], some mX8_grant),
  (51, .ireturn, 1, 0, 0, 0, [], none)]
set_option maxRecDepth 100000 in
theorem kX8_splitCost : ab_def_ok mX8_splitCost rX8_splitCost := ⟨ab_mok_of 811 101 809 810 (by decide +kernel), [0, 0, 0, 751, 0, 0, 0, 0, 0, 0, 0, 0, 0, 455, 0, 0, 660, 0, 0, 0, 0, 0, 0, 812, 0, 0, 0, 755, 0, 620, 0], by decide +kernel⟩
set_option maxRecDepth 100000 in
theorem vX8_splitCost_0 {x : ab_Cx} {d mc ms : Nat} {Post : Option ab_V → List ab_Ob → Prop} (hx : ab_At x mX8_splitCost d mc ms Post) (a1 a2 a3 : Int) (w0 w1 w2 w3 w4 w5 w6 w7 w8 w9 w10 w11 w12 w13 w14 w15 : ab_Ob) (kc ks : Nat)
    (h : (∃ r1 : Int, ab_Calls d 0 0 mX8_hasSpan [ab_O 0, ab_I a1, ab_I a2] [w0, w1, w2, w3, w4, w5, w6, w7, w8, w9, w10, w11, w12, w13, w14, w15] (some (ab_I r1)) [w0, w1, w2, w3, w4, w5, w6, w7, w8, w9, w10, w11, w12, w13, w14, w15] ∧ ((r1 = 0 → (∃ r2 : Int, ∃ v3 : ab_Ob, ab_Calls d 0 0 mX8_refuse [ab_O 0, ab_I 1] [w0, w1, w2, w3, w4, w5, w6, w7, w8, w9, w10, w11, w12, w13, w14, w15] (some (ab_I r2)) [v3, w1, w2, w3, w4, w5, w6, w7, w8, w9, w10, w11, w12, w13, w14, w15] ∧ Post (some (ab_I r2)) [v3, w1, w2, w3, w4, w5, w6, w7, w8, w9, w10, w11, w12, w13, w14, w15])) ∧ (¬ r1 = 0 → ((a3 < a1 → (∃ r4 : Int, ∃ v5 : ab_Ob, ab_Calls d 0 0 mX8_refuse [ab_O 0, ab_I 1] [w0, w1, w2, w3, w4, w5, w6, w7, w8, w9, w10, w11, w12, w13, w14, w15] (some (ab_I r4)) [v5, w1, w2, w3, w4, w5, w6, w7, w8, w9, w10, w11, w12, w13, w14, w15] ∧ Post (some (ab_I r4)) [v5, w1, w2, w3, w4, w5, w6, w7, w8, w9, w10, w11, w12, w13, w14, w15])) ∧ (¬ a3 < a1 → ((a3 < a2 → (∃ mc6 ms7 : Nat, (kc + mc6 ≤ mc ∧ ks + ms7 ≤ ms) ∧ ∃ v8 : ab_Ob, ∃ v9 : ab_Ob, ab_Calls d mc6 ms7 mX8_freshSpans [ab_O 0] [w0, w1, w2, w3, w4, w5, w6, w7, w8, w9, w10, w11, w12, w13, w14, w15] (some (ab_O 5)) [v8, w1, w2, w3, w4, v9, w6, w7, w8, w9, w10, w11, w12, w13, w14, w15] ∧ (∃ r10 : Int, ab_Calls d 0 0 mX1_leastSplitAt [ab_O 0, ab_I a1, ab_I a2, ab_I a3] [v9] (some (ab_I r10)) [v9] ∧ (∃ r11 : Int, ab_Calls d 0 0 mX1_least [ab_O 0, ab_I a1, ab_I a2] [v9] (some (ab_I r11)) [v9] ∧ ((-2147483648 ≤ r10 - r11 ∧ r10 - r11 ≤ 2147483647) ∧ (∃ r12 : Int, ∃ v13 : ab_Ob, ab_Calls d 0 0 mX8_grant [ab_O 0, ab_I (r10 - r11)] [v8, w1, w2, w3, w4, v9, w6, w7, w8, w9, w10, w11, w12, w13, w14, w15] (some (ab_I r12)) [v13, w1, w2, w3, w4, v9, w6, w7, w8, w9, w10, w11, w12, w13, w14, w15] ∧ Post (some (ab_I r12)) [v13, w1, w2, w3, w4, v9, w6, w7, w8, w9, w10, w11, w12, w13, w14, w15])))))) ∧ (¬ a3 < a2 → (∃ r14 : Int, ∃ v15 : ab_Ob, ab_Calls d 0 0 mX8_refuse [ab_O 0, ab_I 1] [w0, w1, w2, w3, w4, w5, w6, w7, w8, w9, w10, w11, w12, w13, w14, w15] (some (ab_I r14)) [v15, w1, w2, w3, w4, w5, w6, w7, w8, w9, w10, w11, w12, w13, w14, w15] ∧ Post (some (ab_I r14)) [v15, w1, w2, w3, w4, w5, w6, w7, w8, w9, w10, w11, w12, w13, w14, w15]))))))))) :
    ab_J x 0 [some (ab_O 0), some (ab_I a1), some (ab_I a2), some (ab_I a3), none] [] [w0, w1, w2, w3, w4, w5, w6, w7, w8, w9, w10, w11, w12, w13, w14, w15] kc ks := ab_go hx kX8_splitCost.2 31 [] 0 h
def mX8_second : ab_M := ((yX8_second, cX8_second, 3, (some .int)), ([8, 4, 5, 5, 0, 1, 2, 7, 6, 1, 7, 7, 7, 7, 3, 3], [(0, 0), (0, 1), (0, 2), (0, 3), (0, 4), (0, 5), (0, 6), (0, 7), (0, 8), (0, 9), (0, 10), (0, 11), (0, 12), (0, 13), (0, 14), (0, 15)], [true, false, false, false, false, true, false, false, false, false, false, false, false, false, false, false], true, true, 0), (false, 8, 2))
def rX8_second : List ab_R := [(0, .aload_n 0, 1, 0, 0, 0, [], none),
  (1, .iload_n 1, 1, 0, 0, 0, [], none),
  (2, .iload_n 2, 1, 0, 0, 0, [], none),
  (3, .invokevirtual 184, 3, 0, 0, 0, [], some mX8_hasSpan),
  (6, .ifCond .ne 9, 3, 0, 0, 0, [15], none),
  (9, .aload_n 0, 1, 0, 0, 0, [], none),
  (10, .iconst 1, 1, 0, 0, 0, [], none),
  (11, .invokevirtual 101, 3, 0, 0, 0, [], some mX8_refuse),
  (14, .ireturn, 1, 0, 0, 0, [], none),
  (15, .aload_n 0, 1, 0, 0, 0, [], none),
  (16, .iload_n 1, 1, 0, 0, 0, [], none),
  (17, .iload_n 2, 1, 0, 0, 0, [], none),
  (18, .if_icmp .ne 8, 3, 0, 0, 0, [26], none),
  (21, .bipush (-2), 2, 0, 0, 0, [], none),
  (23, .goto 12, 3, 0, 0, 0, [35], none),
  (26, .aload_n 0, 1, 0, 0, 0, [], none),
  (27, .invokevirtual 188, 3, 0, 0, 0, [], some mX8_freshSpans),
  (30, .iload_n 1, 1, 0, 0, 0, [], none),
  (31, .iload_n 2, 1, 0, 0, 0, [], none),
  (32, .invokevirtual 224, 3, 0, 0, 0, [], some mX1_nextHead),
  (35, .invokevirtual 124, 3, 0, 0, 0, [], some mX8_grant),
  (38, .ireturn, 1, 0, 0, 0, [], none)]
set_option maxRecDepth 100000 in
theorem kX8_second : ab_def_ok mX8_second rX8_second := ⟨ab_mok_of 820 101 818 819 (by decide +kernel), [0, 0, 0, 751, 0, 0, 0, 455, 0, 0, 0, 0, 0, 0, 0, 0, 660, 0, 0, 821, 620, 0], by decide +kernel⟩
set_option maxRecDepth 100000 in
theorem vX8_second_0 {x : ab_Cx} {d mc ms : Nat} {Post : Option ab_V → List ab_Ob → Prop} (hx : ab_At x mX8_second d mc ms Post) (a1 a2 : Int) (w0 w1 w2 w3 w4 w5 w6 w7 w8 w9 w10 w11 w12 w13 w14 w15 : ab_Ob) (kc ks : Nat)
    (h : (∃ r1 : Int, ab_Calls d 0 0 mX8_hasSpan [ab_O 0, ab_I a1, ab_I a2] [w0, w1, w2, w3, w4, w5, w6, w7, w8, w9, w10, w11, w12, w13, w14, w15] (some (ab_I r1)) [w0, w1, w2, w3, w4, w5, w6, w7, w8, w9, w10, w11, w12, w13, w14, w15] ∧ ((¬ r1 = 0 → ((¬ a1 = a2 → (∃ mc2 ms3 : Nat, (kc + mc2 ≤ mc ∧ ks + ms3 ≤ ms) ∧ ∃ v4 : ab_Ob, ∃ v5 : ab_Ob, ab_Calls d mc2 ms3 mX8_freshSpans [ab_O 0] [w0, w1, w2, w3, w4, w5, w6, w7, w8, w9, w10, w11, w12, w13, w14, w15] (some (ab_O 5)) [v4, w1, w2, w3, w4, v5, w6, w7, w8, w9, w10, w11, w12, w13, w14, w15] ∧ (∃ r6 : Int, ab_Calls d 0 0 mX1_nextHead [ab_O 0, ab_I a1, ab_I a2] [v5] (some (ab_I r6)) [v5] ∧ (∃ r7 : Int, ∃ v8 : ab_Ob, ab_Calls d 0 0 mX8_grant [ab_O 0, ab_I r6] [v4, w1, w2, w3, w4, v5, w6, w7, w8, w9, w10, w11, w12, w13, w14, w15] (some (ab_I r7)) [v8, w1, w2, w3, w4, v5, w6, w7, w8, w9, w10, w11, w12, w13, w14, w15] ∧ Post (some (ab_I r7)) [v8, w1, w2, w3, w4, v5, w6, w7, w8, w9, w10, w11, w12, w13, w14, w15])))) ∧ (a1 = a2 → (∃ r9 : Int, ∃ v10 : ab_Ob, ab_Calls d 0 0 mX8_grant [ab_O 0, ab_I (-2)] [w0, w1, w2, w3, w4, w5, w6, w7, w8, w9, w10, w11, w12, w13, w14, w15] (some (ab_I r9)) [v10, w1, w2, w3, w4, w5, w6, w7, w8, w9, w10, w11, w12, w13, w14, w15] ∧ Post (some (ab_I r9)) [v10, w1, w2, w3, w4, w5, w6, w7, w8, w9, w10, w11, w12, w13, w14, w15])))) ∧ (r1 = 0 → (∃ r11 : Int, ∃ v12 : ab_Ob, ab_Calls d 0 0 mX8_refuse [ab_O 0, ab_I 1] [w0, w1, w2, w3, w4, w5, w6, w7, w8, w9, w10, w11, w12, w13, w14, w15] (some (ab_I r11)) [v12, w1, w2, w3, w4, w5, w6, w7, w8, w9, w10, w11, w12, w13, w14, w15] ∧ Post (some (ab_I r11)) [v12, w1, w2, w3, w4, w5, w6, w7, w8, w9, w10, w11, w12, w13, w14, w15]))))) :
    ab_J x 0 [some (ab_O 0), some (ab_I a1), some (ab_I a2)] [] [w0, w1, w2, w3, w4, w5, w6, w7, w8, w9, w10, w11, w12, w13, w14, w15] kc ks := ab_go hx kX8_second.2 20 [] 0 h
def mX8_broken : ab_M := ((yX8_broken, cX8_broken, 6, (some .int)), ([8, 4, 5, 5, 0, 1, 2, 7, 6, 1, 7, 7, 7, 7, 3, 3], [(0, 0), (0, 1), (0, 2), (0, 3), (0, 4), (0, 5), (0, 6), (0, 7), (0, 8), (0, 9), (0, 10), (0, 11), (0, 12), (0, 13), (0, 14), (0, 15)], [true, false, false, false, false, false, false, false, false, false, false, false, false, false, false, false], false, false, 0), (false, 8, 5))
def rX8_broken : List ab_R := [(0, .aload_n 0, 1, 0, 0, 0, [], none),
  (1, .iload_n 1, 1, 0, 0, 0, [], none),
  (2, .invokevirtual 178, 3, 0, 0, 0, [], some mX8_hasRule),
  (5, .ifCond .eq 24, 3, 0, 0, 0, [29], none),
  (8, .aload_n 0, 1, 0, 0, 0, [], none),
  (9, .iload_n 2, 1, 0, 0, 0, [], none),
  (10, .invokevirtual 151, 3, 0, 0, 0, [], some mX8_hasNote),
  (13, .ifCond .eq 16, 3, 0, 0, 0, [29], none),
  (16, .aload_n 0, 1, 0, 0, 0, [], none),
  (17, .iload_n 3, 1, 0, 0, 0, [], none),
  (18, .invokevirtual 151, 3, 0, 0, 0, [], some mX8_hasNote),
  (21, .ifCond .eq 8, 3, 0, 0, 0, [29], none),
  (24, .iload_n 2, 1, 0, 0, 0, [], none),
  (25, .iload_n 3, 1, 0, 0, 0, [], none),
  (26, .if_icmp .ne 9, 3, 0, 0, 0, [35], none),
  (29, .aload_n 0, 1, 0, 0, 0, [], none),
  (30, .iconst 1, 1, 0, 0, 0, [], none),
  (31, .invokevirtual 101, 3, 0, 0, 0, [], some mX8_refuse),
  (34, .ireturn, 1, 0, 0, 0, [], none),
  (35, .iload 4, 2, 0, 0, 0, [], none),
  (37, .iconst 1, 1, 0, 0, 0, [], none),
  (38, .if_icmp .lt 23, 3, 0, 0, 0, [61], none),
  (41, .iload 4, 2, 0, 0, 0, [], none),
  (43, .bipush 24, 2, 0, 0, 0, [], none),
  (45, .if_icmp .ge 16, 3, 0, 0, 0, [61], none),
  (48, .iload 5, 2, 0, 0, 0, [], none),
  (50, .iconst 1, 1, 0, 0, 0, [], none),
  (51, .if_icmp .lt 10, 3, 0, 0, 0, [61], none),
  (54, .iload 5, 2, 0, 0, 0, [], none),
  (56, .bipush 24, 2, 0, 0, 0, [], none),
  (58, .if_icmp .lt 9, 3, 0, 0, 0, [67], none),
  (61, .aload_n 0, 1, 0, 0, 0, [], none),
  (62, .iconst 2, 1, 0, 0, 0, [], none),
  (63, .invokevirtual 101, 3, 0, 0, 0, [], some mX8_refuse),
  (66, .ireturn, 1, 0, 0, 0, [], none),
  (67, .aload_n 0, 1, 0, 0, 0, [], none),
  (68, .aload_n 0, 1, 0, 0, 0, [], none),
  (69, .getfield 23, 3, 8, 2, 0, [], none),
  (72, .getfield 181, 3, 5, 6, 0, [], none),
  (75, .iload_n 1, 1, 0, 0, 0, [], none),
  (76, .iaload, 1, 0, 0, 0, [], none),
  (77, .aload_n 0, 1, 0, 0, 0, [], none),
  (78, .getfield 23, 3, 8, 2, 0, [], none),
  (81, .iload_n 1, 1, 0, 0, 0, [], none),
  (82, .iload_n 2, 1, 0, 0, 0, [], none),
  (83, .iload_n 3, 1, 0, 0, 0, [], none),
  (84, .iload 4, 2, 0, 0, 0, [], none),
  (86, .iload 5, 2, 0, 0, 0, [], none),
  (88, .invokevirtual 227, 3, 0, 0, 0, [], some mX5_units),
  (91, .imul, 1, 0, 0, 0, [], none),
  (92, .invokevirtual 124, 3, 0, 0, 0, [], some mX8_grant),
  (95, .ireturn, 1, 0, 0, 0, [], none)]
set_option maxRecDepth 100000 in
theorem kX8_broken : ab_def_ok mX8_broken rX8_broken := ⟨ab_mok_of 828 101 826 827 (by decide +kernel), [0, 0, 743, 0, 0, 0, 652, 0, 0, 0, 652, 0, 0, 0, 0, 0, 0, 455, 0, 0, 0, 0, 0, 0, 0, 0, 0, 0, 0, 0, 0, 0, 0, 455, 0, 0, 0, 393, 162, 0, 0, 0, 393, 0, 0, 0, 0, 0, 829, 0, 620, 0], by decide +kernel⟩
set_option maxRecDepth 100000 in
theorem vX8_broken_0 {x : ab_Cx} {d mc ms : Nat} {Post : Option ab_V → List ab_Ob → Prop} (hx : ab_At x mX8_broken d mc ms Post) (a1 a2 a3 a4 a5 : Int) (w0 w1 w2 w3 w4 w5 w6 w7 w8 w9 w10 w11 w12 w13 w14 w15 : ab_Ob) (kc ks : Nat)
    (h : (∃ r1 : Int, ab_Calls d 0 0 mX8_hasRule [ab_O 0, ab_I a1] [w0, w1, w2, w3, w4, w5, w6, w7, w8, w9, w10, w11, w12, w13, w14, w15] (some (ab_I r1)) [w0, w1, w2, w3, w4, w5, w6, w7, w8, w9, w10, w11, w12, w13, w14, w15] ∧ ((r1 = 0 → (∃ r2 : Int, ∃ v3 : ab_Ob, ab_Calls d 0 0 mX8_refuse [ab_O 0, ab_I 1] [w0, w1, w2, w3, w4, w5, w6, w7, w8, w9, w10, w11, w12, w13, w14, w15] (some (ab_I r2)) [v3, w1, w2, w3, w4, w5, w6, w7, w8, w9, w10, w11, w12, w13, w14, w15] ∧ Post (some (ab_I r2)) [v3, w1, w2, w3, w4, w5, w6, w7, w8, w9, w10, w11, w12, w13, w14, w15])) ∧ (¬ r1 = 0 → (∃ r4 : Int, ab_Calls d 0 0 mX8_hasNote [ab_O 0, ab_I a2] [w0, w1, w2, w3, w4, w5, w6, w7, w8, w9, w10, w11, w12, w13, w14, w15] (some (ab_I r4)) [w0, w1, w2, w3, w4, w5, w6, w7, w8, w9, w10, w11, w12, w13, w14, w15] ∧ ((r4 = 0 → (∃ r5 : Int, ∃ v6 : ab_Ob, ab_Calls d 0 0 mX8_refuse [ab_O 0, ab_I 1] [w0, w1, w2, w3, w4, w5, w6, w7, w8, w9, w10, w11, w12, w13, w14, w15] (some (ab_I r5)) [v6, w1, w2, w3, w4, w5, w6, w7, w8, w9, w10, w11, w12, w13, w14, w15] ∧ Post (some (ab_I r5)) [v6, w1, w2, w3, w4, w5, w6, w7, w8, w9, w10, w11, w12, w13, w14, w15])) ∧ (¬ r4 = 0 → (∃ r7 : Int, ab_Calls d 0 0 mX8_hasNote [ab_O 0, ab_I a3] [w0, w1, w2, w3, w4, w5, w6, w7, w8, w9, w10, w11, w12, w13, w14, w15] (some (ab_I r7)) [w0, w1, w2, w3, w4, w5, w6, w7, w8, w9, w10, w11, w12, w13, w14, w15] ∧ ((r7 = 0 → (∃ r8 : Int, ∃ v9 : ab_Ob, ab_Calls d 0 0 mX8_refuse [ab_O 0, ab_I 1] [w0, w1, w2, w3, w4, w5, w6, w7, w8, w9, w10, w11, w12, w13, w14, w15] (some (ab_I r8)) [v9, w1, w2, w3, w4, w5, w6, w7, w8, w9, w10, w11, w12, w13, w14, w15] ∧ Post (some (ab_I r8)) [v9, w1, w2, w3, w4, w5, w6, w7, w8, w9, w10, w11, w12, w13, w14, w15])) ∧ (¬ r7 = 0 → ((¬ a2 = a3 → ((a4 < 1 → (∃ r10 : Int, ∃ v11 : ab_Ob, ab_Calls d 0 0 mX8_refuse [ab_O 0, ab_I 2] [w0, w1, w2, w3, w4, w5, w6, w7, w8, w9, w10, w11, w12, w13, w14, w15] (some (ab_I r10)) [v11, w1, w2, w3, w4, w5, w6, w7, w8, w9, w10, w11, w12, w13, w14, w15] ∧ Post (some (ab_I r10)) [v11, w1, w2, w3, w4, w5, w6, w7, w8, w9, w10, w11, w12, w13, w14, w15])) ∧ (¬ a4 < 1 → ((24 ≤ a4 → (∃ r12 : Int, ∃ v13 : ab_Ob, ab_Calls d 0 0 mX8_refuse [ab_O 0, ab_I 2] [w0, w1, w2, w3, w4, w5, w6, w7, w8, w9, w10, w11, w12, w13, w14, w15] (some (ab_I r12)) [v13, w1, w2, w3, w4, w5, w6, w7, w8, w9, w10, w11, w12, w13, w14, w15] ∧ Post (some (ab_I r12)) [v13, w1, w2, w3, w4, w5, w6, w7, w8, w9, w10, w11, w12, w13, w14, w15])) ∧ (¬ 24 ≤ a4 → ((a5 < 1 → (∃ r14 : Int, ∃ v15 : ab_Ob, ab_Calls d 0 0 mX8_refuse [ab_O 0, ab_I 2] [w0, w1, w2, w3, w4, w5, w6, w7, w8, w9, w10, w11, w12, w13, w14, w15] (some (ab_I r14)) [v15, w1, w2, w3, w4, w5, w6, w7, w8, w9, w10, w11, w12, w13, w14, w15] ∧ Post (some (ab_I r14)) [v15, w1, w2, w3, w4, w5, w6, w7, w8, w9, w10, w11, w12, w13, w14, w15])) ∧ (¬ a5 < 1 → ((a5 < 24 → ((0 ≤ a1 ∧ a1 < (w3.2 6).1) ∧ (∃ r16 : Int, ab_Calls d 0 0 mX5_units [ab_O 0, ab_I a1, ab_I a2, ab_I a3, ab_I a4, ab_I a5] [w3] (some (ab_I r16)) [w3] ∧ ((-2147483648 ≤ ((w3.2 6).2 a1) * r16 ∧ ((w3.2 6).2 a1) * r16 ≤ 2147483647) ∧ (∃ r17 : Int, ∃ v18 : ab_Ob, ab_Calls d 0 0 mX8_grant [ab_O 0, ab_I (((w3.2 6).2 a1) * r16)] [w0, w1, w2, w3, w4, w5, w6, w7, w8, w9, w10, w11, w12, w13, w14, w15] (some (ab_I r17)) [v18, w1, w2, w3, w4, w5, w6, w7, w8, w9, w10, w11, w12, w13, w14, w15] ∧ Post (some (ab_I r17)) [v18, w1, w2, w3, w4, w5, w6, w7, w8, w9, w10, w11, w12, w13, w14, w15]))))) ∧ (¬ a5 < 24 → (∃ r19 : Int, ∃ v20 : ab_Ob, ab_Calls d 0 0 mX8_refuse [ab_O 0, ab_I 2] [w0, w1, w2, w3, w4, w5, w6, w7, w8, w9, w10, w11, w12, w13, w14, w15] (some (ab_I r19)) [v20, w1, w2, w3, w4, w5, w6, w7, w8, w9, w10, w11, w12, w13, w14, w15] ∧ Post (some (ab_I r19)) [v20, w1, w2, w3, w4, w5, w6, w7, w8, w9, w10, w11, w12, w13, w14, w15])))))))))) ∧ (a2 = a3 → (∃ r21 : Int, ∃ v22 : ab_Ob, ab_Calls d 0 0 mX8_refuse [ab_O 0, ab_I 1] [w0, w1, w2, w3, w4, w5, w6, w7, w8, w9, w10, w11, w12, w13, w14, w15] (some (ab_I r21)) [v22, w1, w2, w3, w4, w5, w6, w7, w8, w9, w10, w11, w12, w13, w14, w15] ∧ Post (some (ab_I r21)) [v22, w1, w2, w3, w4, w5, w6, w7, w8, w9, w10, w11, w12, w13, w14, w15]))))))))))))) :
    ab_J x 0 [some (ab_O 0), some (ab_I a1), some (ab_I a2), some (ab_I a3), some (ab_I a4), some (ab_I a5)] [] [w0, w1, w2, w3, w4, w5, w6, w7, w8, w9, w10, w11, w12, w13, w14, w15] kc ks := ab_go hx kX8_broken.2 48 [] 0 h
def mX8_joinings : ab_M := ((yX8_joinings, cX8_joinings, 1, (some .int)), ([8, 4, 5, 5, 0, 1, 2, 7, 6, 1, 7, 7, 7, 7, 3, 3], [(0, 0), (0, 1), (0, 2), (0, 3), (0, 4), (0, 5), (0, 6), (0, 7), (0, 8), (0, 9), (0, 10), (0, 11), (0, 12), (0, 13), (0, 14), (0, 15)], [true, false, false, false, false, true, false, true, false, false, false, false, false, false, false, false], true, true, 0), (false, 8, 0))
def rX8_joinings : List ab_R := [(0, .aload_n 0, 1, 0, 0, 0, [], none),
  (1, .invokevirtual 130, 3, 0, 0, 0, [], some mX8_hasPiece),
  (4, .ifCond .eq 17, 3, 0, 0, 0, [21], none),
  (7, .aload_n 0, 1, 0, 0, 0, [], none),
  (8, .aload_n 0, 1, 0, 0, 0, [], none),
  (9, .invokevirtual 171, 3, 0, 0, 0, [], some mX8_freshTree),
  (12, .getfield 231, 3, 7, 2, 0, [], none),
  (15, .invokevirtual 124, 3, 0, 0, 0, [], some mX8_grant),
  (18, .goto 8, 3, 0, 0, 0, [26], none),
  (21, .aload_n 0, 1, 0, 0, 0, [], none),
  (22, .iconst 1, 1, 0, 0, 0, [], none),
  (23, .invokevirtual 101, 3, 0, 0, 0, [], some mX8_refuse),
  (26, .ireturn, 1, 0, 0, 0, [], none)]
set_option maxRecDepth 100000 in
theorem kX8_joinings : ab_def_ok mX8_joinings rX8_joinings := ⟨ab_mok_of 833 101 831 832 (by decide +kernel), [0, 636, 0, 0, 0, 656, 297, 620, 0, 0, 0, 455, 0], by decide +kernel⟩
set_option maxRecDepth 100000 in
theorem vX8_joinings_0 {x : ab_Cx} {d mc ms : Nat} {Post : Option ab_V → List ab_Ob → Prop} (hx : ab_At x mX8_joinings d mc ms Post) (w0 w1 w2 w3 w4 w5 w6 w7 w8 w9 w10 w11 w12 w13 w14 w15 : ab_Ob) (kc ks : Nat)
    (h : (∃ r1 : Int, ab_Calls d 0 0 mX8_hasPiece [ab_O 0] [w0, w1, w2, w3, w4, w5, w6, w7, w8, w9, w10, w11, w12, w13, w14, w15] (some (ab_I r1)) [w0, w1, w2, w3, w4, w5, w6, w7, w8, w9, w10, w11, w12, w13, w14, w15] ∧ ((r1 = 0 → (∃ r2 : Int, ∃ v3 : ab_Ob, ab_Calls d 0 0 mX8_refuse [ab_O 0, ab_I 1] [w0, w1, w2, w3, w4, w5, w6, w7, w8, w9, w10, w11, w12, w13, w14, w15] (some (ab_I r2)) [v3, w1, w2, w3, w4, w5, w6, w7, w8, w9, w10, w11, w12, w13, w14, w15] ∧ Post (some (ab_I r2)) [v3, w1, w2, w3, w4, w5, w6, w7, w8, w9, w10, w11, w12, w13, w14, w15])) ∧ (¬ r1 = 0 → (∃ mc4 ms5 : Nat, (kc + mc4 ≤ mc ∧ ks + ms5 ≤ ms) ∧ ∃ v6 : ab_Ob, ∃ v7 : ab_Ob, ∃ v8 : ab_Ob, ab_Calls d mc4 ms5 mX8_freshTree [ab_O 0] [w0, w1, w2, w3, w4, w5, w6, w7, w8, w9, w10, w11, w12, w13, w14, w15] (some (ab_O 7)) [v6, w1, w2, w3, w4, v7, w6, v8, w8, w9, w10, w11, w12, w13, w14, w15] ∧ (∃ r9 : Int, ∃ v10 : ab_Ob, ab_Calls d 0 0 mX8_grant [ab_O 0, ab_I (v8.1 2)] [v6, w1, w2, w3, w4, v7, w6, v8, w8, w9, w10, w11, w12, w13, w14, w15] (some (ab_I r9)) [v10, w1, w2, w3, w4, v7, w6, v8, w8, w9, w10, w11, w12, w13, w14, w15] ∧ Post (some (ab_I r9)) [v10, w1, w2, w3, w4, v7, w6, v8, w8, w9, w10, w11, w12, w13, w14, w15])))))) :
    ab_J x 0 [some (ab_O 0)] [] [w0, w1, w2, w3, w4, w5, w6, w7, w8, w9, w10, w11, w12, w13, w14, w15] kc ks := ab_go hx kX8_joinings.2 14 [] 0 h
def mX8_joining : ab_M := ((yX8_joining, cX8_joining, 4, (some .int)), ([8, 4, 5, 5, 0, 1, 2, 7, 6, 1, 7, 7, 7, 7, 3, 3], [(0, 0), (0, 1), (0, 2), (0, 3), (0, 4), (0, 5), (0, 6), (0, 7), (0, 8), (0, 9), (0, 10), (0, 11), (0, 12), (0, 13), (0, 14), (0, 15)], [true, false, false, false, false, true, false, true, false, false, false, false, false, false, false, false], true, true, 0), (false, 8, 2))
def rX8_joining : List ab_R := [(0, .aload_n 0, 1, 0, 0, 0, [], none),
  (1, .invokevirtual 130, 3, 0, 0, 0, [], some mX8_hasPiece),
  (4, .ifCond .ne 9, 3, 0, 0, 0, [13], none),
  (7, .aload_n 0, 1, 0, 0, 0, [], none),
  (8, .iconst 1, 1, 0, 0, 0, [], none),
  (9, .invokevirtual 101, 3, 0, 0, 0, [], some mX8_refuse),
  (12, .ireturn, 1, 0, 0, 0, [], none),
  (13, .aload_n 0, 1, 0, 0, 0, [], none),
  (14, .invokevirtual 171, 3, 0, 0, 0, [], some mX8_freshTree),
  (17, .astore_n 3, 1, 0, 0, 0, [], none),
  (18, .iload_n 1, 1, 0, 0, 0, [], none),
  (19, .ifCond .lt 11, 3, 0, 0, 0, [30], none),
  (22, .iload_n 1, 1, 0, 0, 0, [], none),
  (23, .aload_n 3, 1, 0, 0, 0, [], none),
  (24, .getfield 231, 3, 7, 2, 0, [], none),
  (27, .if_icmp .lt 9, 3, 0, 0, 0, [36], none),
  (30, .aload_n 0, 1, 0, 0, 0, [], none),
  (31, .iconst 1, 1, 0, 0, 0, [], none),
  (32, .invokevirtual 101, 3, 0, 0, 0, [], some mX8_refuse),
  (35, .ireturn, 1, 0, 0, 0, [], none),
  (36, .iload_n 2, 1, 0, 0, 0, [], none),
  (37, .tableswitch 123 0 6 #[43, 54, 65, 76, 87, 98, 112], 43, 0, 0, 0, [160, 80, 91, 102, 113, 124, 135, 149], none),
  (80, .aload_n 0, 1, 0, 0, 0, [], none),
  (81, .aload_n 3, 1, 0, 0, 0, [], none),
  (82, .getfield 234, 3, 7, 3, 0, [], none),
  (85, .iload_n 1, 1, 0, 0, 0, [], none),
  (86, .iaload, 1, 0, 0, 0, [], none),
  (87, .invokevirtual 124, 3, 0, 0, 0, [], some mX8_grant),
  (90, .ireturn, 1, 0, 0, 0, [], none),
  (91, .aload_n 0, 1, 0, 0, 0, [], none),
  (92, .aload_n 3, 1, 0, 0, 0, [], none),
  (93, .getfield 237, 3, 7, 4, 0, [], none),
  (96, .iload_n 1, 1, 0, 0, 0, [], none),
  (97, .iaload, 1, 0, 0, 0, [], none),
  (98, .invokevirtual 124, 3, 0, 0, 0, [], some mX8_grant),
  (101, .ireturn, 1, 0, 0, 0, [], none),
  (102, .aload_n 0, 1, 0, 0, 0, [], none),
  (103, .aload_n 3, 1, 0, 0, 0, [], none),
  (104, .getfield 240, 3, 7, 5, 0, [], none),
  (107, .iload_n 1, 1, 0, 0, 0, [], none),
  (108, .iaload, 1, 0, 0, 0, [], none),
  (109, .invokevirtual 124, 3, 0, 0, 0, [], some mX8_grant),
  (112, .ireturn, 1, 0, 0, 0, [], none),
  (113, .aload_n 0, 1, 0, 0, 0, [], none),
  (114, .aload_n 3, 1, 0, 0, 0, [], none),
  (115, .getfield 243, 3, 7, 6, 0, [], none),
  (118, .iload_n 1, 1, 0, 0, 0, [], none),
  (119, .iaload, 1, 0, 0, 0, [], none),
  (120, .invokevirtual 124, 3, 0, 0, 0, [], some mX8_grant),
  (123, .ireturn, 1, 0, 0, 0, [], none),
  (124, .aload_n 0, 1, 0, 0, 0, [], none),
  (125, .aload_n 3, 1, 0, 0, 0, [], none),
  (126, .getfield 246, 3, 7, 7, 0, [], none),
  (129, .iload_n 1, 1, 0, 0, 0, [], none),
  (130, .iaload, 1, 0, 0, 0, [], none),
  (131, .invokevirtual 124, 3, 0, 0, 0, [], some mX8_grant),
  (134, .ireturn, 1, 0, 0, 0, [], none),
  (135, .aload_n 0, 1, 0, 0, 0, [], none),
  (136, .aload_n 3, 1, 0, 0, 0, [], none),
  (137, .aload_n 0, 1, 0, 0, 0, [], none),
  (138, .getfield 23, 3, 8, 2, 0, [], none),
  (141, .iload_n 1, 1, 0, 0, 0, [], none),
  (142, .invokevirtual 249, 3, 0, 0, 0, [], some mX7_breaksAt),
  (145, .invokevirtual 124, 3, 0, 0, 0, [], some mX8_grant),
  (148, .ireturn, 1, 0, 0, 0, [], none),
  (149, .aload_n 0, 1, 0, 0, 0, [], none),
  (150, .aload_n 3, 1, 0, 0, 0, [], none),
  (151, .getfield 253, 3, 7, 8, 0, [], none),
  (154, .iload_n 1, 1, 0, 0, 0, [], none),
  (155, .iaload, 1, 0, 0, 0, [], none),
  (156, .invokevirtual 124, 3, 0, 0, 0, [], some mX8_grant),
  (159, .ireturn, 1, 0, 0, 0, [], none),
  (160, .aload_n 0, 1, 0, 0, 0, [], none),
  (161, .iconst 1, 1, 0, 0, 0, [], none),
  (162, .invokevirtual 101, 3, 0, 0, 0, [], some mX8_refuse),
  (165, .ireturn, 1, 0, 0, 0, [], none)]
set_option maxRecDepth 100000 in
theorem kX8_joining : ab_def_ok mX8_joining rX8_joining := ⟨ab_mok_of 837 101 835 836 (by decide +kernel), [0, 636, 0, 0, 0, 455, 0, 0, 656, 0, 0, 0, 0, 0, 297, 0, 0, 0, 455, 0, 0, 0, 0, 0, 300, 0, 0, 620, 0, 0, 0, 303, 0, 0, 620, 0, 0, 0, 305, 0, 0, 620, 0, 0, 0, 308, 0, 0, 620, 0, 0, 0, 310, 0, 0, 620, 0, 0, 0, 0, 393, 0, 838, 620, 0, 0, 0, 313, 0, 0, 620, 0, 0, 0, 455, 0], by decide +kernel⟩
set_option maxRecDepth 100000 in
theorem vX8_joining_0 {x : ab_Cx} {d mc ms : Nat} {Post : Option ab_V → List ab_Ob → Prop} (hx : ab_At x mX8_joining d mc ms Post) (a1 a2 : Int) (w0 w1 w2 w3 w4 w5 w6 w7 w8 w9 w10 w11 w12 w13 w14 w15 : ab_Ob) (kc ks : Nat)
    (h : (∃ r1 : Int, ab_Calls d 0 0 mX8_hasPiece [ab_O 0] [w0, w1, w2, w3, w4, w5, w6, w7, w8, w9, w10, w11, w12, w13, w14, w15] (some (ab_I r1)) [w0, w1, w2, w3, w4, w5, w6, w7, w8, w9, w10, w11, w12, w13, w14, w15] ∧ ((¬ r1 = 0 → (∃ mc2 ms3 : Nat, (kc + mc2 ≤ mc ∧ ks + ms3 ≤ ms) ∧ ∃ v4 : ab_Ob, ∃ v5 : ab_Ob, ∃ v6 : ab_Ob, ab_Calls d mc2 ms3 mX8_freshTree [ab_O 0] [w0, w1, w2, w3, w4, w5, w6, w7, w8, w9, w10, w11, w12, w13, w14, w15] (some (ab_O 7)) [v4, w1, w2, w3, w4, v5, w6, v6, w8, w9, w10, w11, w12, w13, w14, w15] ∧ ((a1 < 0 → (∃ r7 : Int, ∃ v8 : ab_Ob, ab_Calls d 0 0 mX8_refuse [ab_O 0, ab_I 1] [v4, w1, w2, w3, w4, v5, w6, v6, w8, w9, w10, w11, w12, w13, w14, w15] (some (ab_I r7)) [v8, w1, w2, w3, w4, v5, w6, v6, w8, w9, w10, w11, w12, w13, w14, w15] ∧ Post (some (ab_I r7)) [v8, w1, w2, w3, w4, v5, w6, v6, w8, w9, w10, w11, w12, w13, w14, w15])) ∧ (¬ a1 < 0 → ((a1 < (v6.1 2) → ((a2 < 0 ∨ 6 < a2 → (∃ r24 : Int, ∃ v25 : ab_Ob, ab_Calls d 0 0 mX8_refuse [ab_O 0, ab_I 1] [v4, w1, w2, w3, w4, v5, w6, v6, w8, w9, w10, w11, w12, w13, w14, w15] (some (ab_I r24)) [v25, w1, w2, w3, w4, v5, w6, v6, w8, w9, w10, w11, w12, w13, w14, w15] ∧ Post (some (ab_I r24)) [v25, w1, w2, w3, w4, v5, w6, v6, w8, w9, w10, w11, w12, w13, w14, w15])) ∧ ((a2 = 0 → ((0 ≤ a1 ∧ a1 < (v6.2 3).1) ∧ (∃ r22 : Int, ∃ v23 : ab_Ob, ab_Calls d 0 0 mX8_grant [ab_O 0, ab_I ((v6.2 3).2 a1)] [v4, w1, w2, w3, w4, v5, w6, v6, w8, w9, w10, w11, w12, w13, w14, w15] (some (ab_I r22)) [v23, w1, w2, w3, w4, v5, w6, v6, w8, w9, w10, w11, w12, w13, w14, w15] ∧ Post (some (ab_I r22)) [v23, w1, w2, w3, w4, v5, w6, v6, w8, w9, w10, w11, w12, w13, w14, w15]))) ∧ ((a2 = 1 → ((0 ≤ a1 ∧ a1 < (v6.2 4).1) ∧ (∃ r20 : Int, ∃ v21 : ab_Ob, ab_Calls d 0 0 mX8_grant [ab_O 0, ab_I ((v6.2 4).2 a1)] [v4, w1, w2, w3, w4, v5, w6, v6, w8, w9, w10, w11, w12, w13, w14, w15] (some (ab_I r20)) [v21, w1, w2, w3, w4, v5, w6, v6, w8, w9, w10, w11, w12, w13, w14, w15] ∧ Post (some (ab_I r20)) [v21, w1, w2, w3, w4, v5, w6, v6, w8, w9, w10, w11, w12, w13, w14, w15]))) ∧ ((a2 = 2 → ((0 ≤ a1 ∧ a1 < (v6.2 5).1) ∧ (∃ r18 : Int, ∃ v19 : ab_Ob, ab_Calls d 0 0 mX8_grant [ab_O 0, ab_I ((v6.2 5).2 a1)] [v4, w1, w2, w3, w4, v5, w6, v6, w8, w9, w10, w11, w12, w13, w14, w15] (some (ab_I r18)) [v19, w1, w2, w3, w4, v5, w6, v6, w8, w9, w10, w11, w12, w13, w14, w15] ∧ Post (some (ab_I r18)) [v19, w1, w2, w3, w4, v5, w6, v6, w8, w9, w10, w11, w12, w13, w14, w15]))) ∧ ((a2 = 3 → ((0 ≤ a1 ∧ a1 < (v6.2 6).1) ∧ (∃ r16 : Int, ∃ v17 : ab_Ob, ab_Calls d 0 0 mX8_grant [ab_O 0, ab_I ((v6.2 6).2 a1)] [v4, w1, w2, w3, w4, v5, w6, v6, w8, w9, w10, w11, w12, w13, w14, w15] (some (ab_I r16)) [v17, w1, w2, w3, w4, v5, w6, v6, w8, w9, w10, w11, w12, w13, w14, w15] ∧ Post (some (ab_I r16)) [v17, w1, w2, w3, w4, v5, w6, v6, w8, w9, w10, w11, w12, w13, w14, w15]))) ∧ ((a2 = 4 → ((0 ≤ a1 ∧ a1 < (v6.2 7).1) ∧ (∃ r14 : Int, ∃ v15 : ab_Ob, ab_Calls d 0 0 mX8_grant [ab_O 0, ab_I ((v6.2 7).2 a1)] [v4, w1, w2, w3, w4, v5, w6, v6, w8, w9, w10, w11, w12, w13, w14, w15] (some (ab_I r14)) [v15, w1, w2, w3, w4, v5, w6, v6, w8, w9, w10, w11, w12, w13, w14, w15] ∧ Post (some (ab_I r14)) [v15, w1, w2, w3, w4, v5, w6, v6, w8, w9, w10, w11, w12, w13, w14, w15]))) ∧ ((a2 = 5 → (∃ r11 : Int, ab_Calls d 0 0 mX7_breaksAt [ab_O 0, ab_O 1, ab_I a1] [v6, w3] (some (ab_I r11)) [v6, w3] ∧ (∃ r12 : Int, ∃ v13 : ab_Ob, ab_Calls d 0 0 mX8_grant [ab_O 0, ab_I r11] [v4, w1, w2, w3, w4, v5, w6, v6, w8, w9, w10, w11, w12, w13, w14, w15] (some (ab_I r12)) [v13, w1, w2, w3, w4, v5, w6, v6, w8, w9, w10, w11, w12, w13, w14, w15] ∧ Post (some (ab_I r12)) [v13, w1, w2, w3, w4, v5, w6, v6, w8, w9, w10, w11, w12, w13, w14, w15]))) ∧ ((a2 = 6 → ((0 ≤ a1 ∧ a1 < (v6.2 8).1) ∧ (∃ r9 : Int, ∃ v10 : ab_Ob, ab_Calls d 0 0 mX8_grant [ab_O 0, ab_I ((v6.2 8).2 a1)] [v4, w1, w2, w3, w4, v5, w6, v6, w8, w9, w10, w11, w12, w13, w14, w15] (some (ab_I r9)) [v10, w1, w2, w3, w4, v5, w6, v6, w8, w9, w10, w11, w12, w13, w14, w15] ∧ Post (some (ab_I r9)) [v10, w1, w2, w3, w4, v5, w6, v6, w8, w9, w10, w11, w12, w13, w14, w15]))) ∧ True))))))))) ∧ (¬ a1 < (v6.1 2) → (∃ r26 : Int, ∃ v27 : ab_Ob, ab_Calls d 0 0 mX8_refuse [ab_O 0, ab_I 1] [v4, w1, w2, w3, w4, v5, w6, v6, w8, w9, w10, w11, w12, w13, w14, w15] (some (ab_I r26)) [v27, w1, w2, w3, w4, v5, w6, v6, w8, w9, w10, w11, w12, w13, w14, w15] ∧ Post (some (ab_I r26)) [v27, w1, w2, w3, w4, v5, w6, v6, w8, w9, w10, w11, w12, w13, w14, w15]))))))) ∧ (r1 = 0 → (∃ r28 : Int, ∃ v29 : ab_Ob, ab_Calls d 0 0 mX8_refuse [ab_O 0, ab_I 1] [w0, w1, w2, w3, w4, w5, w6, w7, w8, w9, w10, w11, w12, w13, w14, w15] (some (ab_I r28)) [v29, w1, w2, w3, w4, w5, w6, w7, w8, w9, w10, w11, w12, w13, w14, w15] ∧ Post (some (ab_I r28)) [v29, w1, w2, w3, w4, w5, w6, w7, w8, w9, w10, w11, w12, w13, w14, w15]))))) :
    ab_J x 0 [some (ab_O 0), some (ab_I a1), some (ab_I a2), none] [] [w0, w1, w2, w3, w4, w5, w6, w7, w8, w9, w10, w11, w12, w13, w14, w15] kc ks := ab_go hx kX8_joining.2 26 [] 0 h
def mX8_breaksOf : ab_M := ((yX8_breaksOf, cX8_breaksOf, 2, (some .int)), ([8, 4, 5, 5, 0, 1, 2, 7, 6, 1, 7, 7, 7, 7, 3, 3], [(0, 0), (0, 1), (0, 2), (0, 3), (0, 4), (0, 5), (0, 6), (0, 7), (0, 8), (0, 9), (0, 10), (0, 11), (0, 12), (0, 13), (0, 14), (0, 15)], [true, false, false, false, false, true, false, true, false, false, false, false, false, false, false, false], true, true, 0), (false, 8, 1))
def rX8_breaksOf : List ab_R := [(0, .aload_n 0, 1, 0, 0, 0, [], none),
  (1, .iload_n 1, 1, 0, 0, 0, [], none),
  (2, .invokevirtual 178, 3, 0, 0, 0, [], some mX8_hasRule),
  (5, .ifCond .ne 9, 3, 0, 0, 0, [14], none),
  (8, .aload_n 0, 1, 0, 0, 0, [], none),
  (9, .iconst 1, 1, 0, 0, 0, [], none),
  (10, .invokevirtual 101, 3, 0, 0, 0, [], some mX8_refuse),
  (13, .ireturn, 1, 0, 0, 0, [], none),
  (14, .aload_n 0, 1, 0, 0, 0, [], none),
  (15, .aload_n 0, 1, 0, 0, 0, [], none),
  (16, .getfield 23, 3, 8, 2, 0, [], none),
  (19, .getfield 181, 3, 5, 6, 0, [], none),
  (22, .iload_n 1, 1, 0, 0, 0, [], none),
  (23, .iaload, 1, 0, 0, 0, [], none),
  (24, .aload_n 0, 1, 0, 0, 0, [], none),
  (25, .invokevirtual 171, 3, 0, 0, 0, [], some mX8_freshTree),
  (28, .aload_n 0, 1, 0, 0, 0, [], none),
  (29, .getfield 23, 3, 8, 2, 0, [], none),
  (32, .iload_n 1, 1, 0, 0, 0, [], none),
  (33, .invokevirtual 256, 3, 0, 0, 0, [], some mX7_unitsOf),
  (36, .imul, 1, 0, 0, 0, [], none),
  (37, .invokevirtual 124, 3, 0, 0, 0, [], some mX8_grant),
  (40, .ireturn, 1, 0, 0, 0, [], none)]
set_option maxRecDepth 100000 in
theorem kX8_breaksOf : ab_def_ok mX8_breaksOf rX8_breaksOf := ⟨ab_mok_of 854 101 852 853 (by decide +kernel), [0, 0, 743, 0, 0, 0, 455, 0, 0, 0, 393, 162, 0, 0, 0, 656, 0, 393, 0, 855, 0, 620, 0], by decide +kernel⟩
set_option maxRecDepth 100000 in
theorem vX8_breaksOf_0 {x : ab_Cx} {d mc ms : Nat} {Post : Option ab_V → List ab_Ob → Prop} (hx : ab_At x mX8_breaksOf d mc ms Post) (a1 : Int) (w0 w1 w2 w3 w4 w5 w6 w7 w8 w9 w10 w11 w12 w13 w14 w15 : ab_Ob) (kc ks : Nat)
    (h : (∃ r1 : Int, ab_Calls d 0 0 mX8_hasRule [ab_O 0, ab_I a1] [w0, w1, w2, w3, w4, w5, w6, w7, w8, w9, w10, w11, w12, w13, w14, w15] (some (ab_I r1)) [w0, w1, w2, w3, w4, w5, w6, w7, w8, w9, w10, w11, w12, w13, w14, w15] ∧ ((¬ r1 = 0 → ((0 ≤ a1 ∧ a1 < (w3.2 6).1) ∧ (∃ mc2 ms3 : Nat, (kc + mc2 ≤ mc ∧ ks + ms3 ≤ ms) ∧ ∃ v4 : ab_Ob, ∃ v5 : ab_Ob, ∃ v6 : ab_Ob, ab_Calls d mc2 ms3 mX8_freshTree [ab_O 0] [w0, w1, w2, w3, w4, w5, w6, w7, w8, w9, w10, w11, w12, w13, w14, w15] (some (ab_O 7)) [v4, w1, w2, w3, w4, v5, w6, v6, w8, w9, w10, w11, w12, w13, w14, w15] ∧ (∃ r7 : Int, ab_Calls d 0 0 mX7_unitsOf [ab_O 0, ab_O 1, ab_I a1] [v6, w3] (some (ab_I r7)) [v6, w3] ∧ ((-2147483648 ≤ ((w3.2 6).2 a1) * r7 ∧ ((w3.2 6).2 a1) * r7 ≤ 2147483647) ∧ (∃ r8 : Int, ∃ v9 : ab_Ob, ab_Calls d 0 0 mX8_grant [ab_O 0, ab_I (((w3.2 6).2 a1) * r7)] [v4, w1, w2, w3, w4, v5, w6, v6, w8, w9, w10, w11, w12, w13, w14, w15] (some (ab_I r8)) [v9, w1, w2, w3, w4, v5, w6, v6, w8, w9, w10, w11, w12, w13, w14, w15] ∧ Post (some (ab_I r8)) [v9, w1, w2, w3, w4, v5, w6, v6, w8, w9, w10, w11, w12, w13, w14, w15])))))) ∧ (r1 = 0 → (∃ r10 : Int, ∃ v11 : ab_Ob, ab_Calls d 0 0 mX8_refuse [ab_O 0, ab_I 1] [w0, w1, w2, w3, w4, w5, w6, w7, w8, w9, w10, w11, w12, w13, w14, w15] (some (ab_I r10)) [v11, w1, w2, w3, w4, w5, w6, w7, w8, w9, w10, w11, w12, w13, w14, w15] ∧ Post (some (ab_I r10)) [v11, w1, w2, w3, w4, w5, w6, w7, w8, w9, w10, w11, w12, w13, w14, w15]))))) :
    ab_J x 0 [some (ab_O 0), some (ab_I a1)] [] [w0, w1, w2, w3, w4, w5, w6, w7, w8, w9, w10, w11, w12, w13, w14, w15] kc ks := ab_go hx kX8_breaksOf.2 23 [] 0 h
def mX8_deepest : ab_M := ((yX8_deepest, cX8_deepest, 1, (some .int)), ([8, 4, 5, 5, 0, 1, 2, 7, 6, 1, 7, 7, 7, 7, 3, 3], [(0, 0), (0, 1), (0, 2), (0, 3), (0, 4), (0, 5), (0, 6), (0, 7), (0, 8), (0, 9), (0, 10), (0, 11), (0, 12), (0, 13), (0, 14), (0, 15)], [true, false, false, false, false, true, false, true, false, false, false, false, false, false, false, false], true, true, 0), (false, 8, 0))
def rX8_deepest : List ab_R := [(0, .aload_n 0, 1, 0, 0, 0, [], none),
  (1, .invokevirtual 130, 3, 0, 0, 0, [], some mX8_hasPiece),
  (4, .ifCond .eq 17, 3, 0, 0, 0, [21], none),
  (7, .aload_n 0, 1, 0, 0, 0, [], none),
  (8, .aload_n 0, 1, 0, 0, 0, [], none),
  (9, .invokevirtual 171, 3, 0, 0, 0, [], some mX8_freshTree),
  (12, .invokevirtual 259, 3, 0, 0, 0, [], some mX7_greatestDepth),
  (15, .invokevirtual 124, 3, 0, 0, 0, [], some mX8_grant),
  (18, .goto 8, 3, 0, 0, 0, [26], none),
  (21, .aload_n 0, 1, 0, 0, 0, [], none),
  (22, .iconst 1, 1, 0, 0, 0, [], none),
  (23, .invokevirtual 101, 3, 0, 0, 0, [], some mX8_refuse),
  (26, .ireturn, 1, 0, 0, 0, [], none)]
set_option maxRecDepth 100000 in
theorem kX8_deepest : ab_def_ok mX8_deepest rX8_deepest := ⟨ab_mok_of 867 101 865 866 (by decide +kernel), [0, 636, 0, 0, 0, 656, 868, 620, 0, 0, 0, 455, 0], by decide +kernel⟩
set_option maxRecDepth 100000 in
theorem vX8_deepest_0 {x : ab_Cx} {d mc ms : Nat} {Post : Option ab_V → List ab_Ob → Prop} (hx : ab_At x mX8_deepest d mc ms Post) (w0 w1 w2 w3 w4 w5 w6 w7 w8 w9 w10 w11 w12 w13 w14 w15 : ab_Ob) (kc ks : Nat)
    (h : (∃ r1 : Int, ab_Calls d 0 0 mX8_hasPiece [ab_O 0] [w0, w1, w2, w3, w4, w5, w6, w7, w8, w9, w10, w11, w12, w13, w14, w15] (some (ab_I r1)) [w0, w1, w2, w3, w4, w5, w6, w7, w8, w9, w10, w11, w12, w13, w14, w15] ∧ ((r1 = 0 → (∃ r2 : Int, ∃ v3 : ab_Ob, ab_Calls d 0 0 mX8_refuse [ab_O 0, ab_I 1] [w0, w1, w2, w3, w4, w5, w6, w7, w8, w9, w10, w11, w12, w13, w14, w15] (some (ab_I r2)) [v3, w1, w2, w3, w4, w5, w6, w7, w8, w9, w10, w11, w12, w13, w14, w15] ∧ Post (some (ab_I r2)) [v3, w1, w2, w3, w4, w5, w6, w7, w8, w9, w10, w11, w12, w13, w14, w15])) ∧ (¬ r1 = 0 → (∃ mc4 ms5 : Nat, (kc + mc4 ≤ mc ∧ ks + ms5 ≤ ms) ∧ ∃ v6 : ab_Ob, ∃ v7 : ab_Ob, ∃ v8 : ab_Ob, ab_Calls d mc4 ms5 mX8_freshTree [ab_O 0] [w0, w1, w2, w3, w4, w5, w6, w7, w8, w9, w10, w11, w12, w13, w14, w15] (some (ab_O 7)) [v6, w1, w2, w3, w4, v7, w6, v8, w8, w9, w10, w11, w12, w13, w14, w15] ∧ (∃ r9 : Int, ab_Calls d 0 0 mX7_greatestDepth [ab_O 0] [v8] (some (ab_I r9)) [v8] ∧ (∃ r10 : Int, ∃ v11 : ab_Ob, ab_Calls d 0 0 mX8_grant [ab_O 0, ab_I r9] [v6, w1, w2, w3, w4, v7, w6, v8, w8, w9, w10, w11, w12, w13, w14, w15] (some (ab_I r10)) [v11, w1, w2, w3, w4, v7, w6, v8, w8, w9, w10, w11, w12, w13, w14, w15] ∧ Post (some (ab_I r10)) [v11, w1, w2, w3, w4, v7, w6, v8, w8, w9, w10, w11, w12, w13, w14, w15]))))))) :
    ab_J x 0 [some (ab_O 0)] [] [w0, w1, w2, w3, w4, w5, w6, w7, w8, w9, w10, w11, w12, w13, w14, w15] kc ks := ab_go hx kX8_deepest.2 14 [] 0 h
def mX8_cutLayer : ab_M := ((yX8_cutLayer, cX8_cutLayer, 4, (some .int)), ([8, 4, 5, 5, 0, 1, 2, 7, 6, 1, 7, 7, 7, 7, 3, 3], [(0, 0), (0, 1), (0, 2), (0, 3), (0, 4), (0, 5), (0, 6), (0, 7), (0, 8), (0, 9), (0, 10), (0, 11), (0, 12), (0, 13), (0, 14), (0, 15)], [true, false, false, false, false, true, false, true, false, false, false, false, false, false, false, true], true, true, 0), (false, 8, 2))
def rX8_cutLayer : List ab_R := [(0, .aload_n 0, 1, 0, 0, 0, [], none),
  (1, .invokevirtual 130, 3, 0, 0, 0, [], some mX8_hasPiece),
  (4, .ifCond .ne 5, 3, 0, 0, 0, [9], none),
  (7, .iconst 1, 1, 0, 0, 0, [], none),
  (8, .ireturn, 1, 0, 0, 0, [], none),
  (9, .aload_n 0, 1, 0, 0, 0, [], none),
  (10, .invokevirtual 171, 3, 0, 0, 0, [], some mX8_freshTree),
  (13, .astore_n 3, 1, 0, 0, 0, [], none),
  (14, .iload_n 2, 1, 0, 0, 0, [], none),
  (15, .ifCond .lt 11, 3, 0, 0, 0, [26], none),
  (18, .iload_n 2, 1, 0, 0, 0, [], none),
  (19, .aload_n 3, 1, 0, 0, 0, [], none),
  (20, .invokevirtual 259, 3, 0, 0, 0, [], some mX7_greatestDepth),
  (23, .if_icmp .le 5, 3, 0, 0, 0, [28], none),
  (26, .iconst 2, 1, 0, 0, 0, [], none),
  (27, .ireturn, 1, 0, 0, 0, [], none),
  (28, .aload_n 1, 1, 0, 0, 0, [], none),
  (29, .aload_n 3, 1, 0, 0, 0, [], none),
  (30, .iload_n 2, 1, 0, 0, 0, [], none),
  (31, .aload_n 0, 1, 0, 0, 0, [], none),
  (32, .getfield 23, 3, 8, 2, 0, [], none),
  (35, .getfield 121, 3, 5, 3, 0, [], none),
  (38, .invokevirtual 382, 3, 0, 0, 0, [], some mX3_cut),
  (41, .iconst 0, 1, 0, 0, 0, [], none),
  (42, .ireturn, 1, 0, 0, 0, [], none)]
set_option maxRecDepth 100000 in
theorem kX8_cutLayer : ab_def_ok mX8_cutLayer rX8_cutLayer := ⟨ab_mok_of 882 101 881 35 (by decide +kernel), [0, 636, 0, 0, 0, 0, 656, 0, 0, 0, 0, 0, 868, 0, 0, 0, 0, 0, 0, 0, 393, 150, 883, 0, 0], by decide +kernel⟩
set_option maxRecDepth 100000 in
theorem vX8_cutLayer_14_0 {x : ab_Cx} {d mc ms : Nat} {Post : Option ab_V → List ab_Ob → Prop} (hx : ab_At x mX8_cutLayer d mc ms Post) (a2 : Int) (w0 w1 w2 w3 w4 w5 w6 w7 w8 w9 w10 w11 w12 w13 w14 w15 : ab_Ob) (kc ks : Nat)
    (h : (∃ r1 : Int, ab_Calls d 0 0 mX8_hasPiece [ab_O 0] [w0, w1, w2, w3, w4, w5, w6, w7, w8, w9, w10, w11, w12, w13, w14, w15] (some (ab_I r1)) [w0, w1, w2, w3, w4, w5, w6, w7, w8, w9, w10, w11, w12, w13, w14, w15] ∧ ((¬ r1 = 0 → (∃ mc2 ms3 : Nat, (kc + mc2 ≤ mc ∧ ks + ms3 ≤ ms) ∧ ∃ v4 : ab_Ob, ∃ v5 : ab_Ob, ∃ v6 : ab_Ob, ab_Calls d mc2 ms3 mX8_freshTree [ab_O 0] [w0, w1, w2, w3, w4, w5, w6, w7, w8, w9, w10, w11, w12, w13, w14, w15] (some (ab_O 7)) [v4, w1, w2, w3, w4, v5, w6, v6, w8, w9, w10, w11, w12, w13, w14, w15] ∧ ((a2 < 0 → Post (some (ab_I 2)) [v4, w1, w2, w3, w4, v5, w6, v6, w8, w9, w10, w11, w12, w13, w14, w15]) ∧ (¬ a2 < 0 → (∃ r7 : Int, ab_Calls d 0 0 mX7_greatestDepth [ab_O 0] [v6] (some (ab_I r7)) [v6] ∧ ((a2 ≤ r7 → (∃ v8 : ab_Ob, ab_Calls d 0 0 mX3_cut [ab_O 0, ab_O 1, ab_I a2, ab_I (w3.1 3)] [w14, v6] none [v8, v6] ∧ Post (some (ab_I 0)) [v4, w1, w2, w3, w4, v5, w6, v6, w8, w9, w10, w11, w12, w13, v8, w15])) ∧ (¬ a2 ≤ r7 → Post (some (ab_I 2)) [v4, w1, w2, w3, w4, v5, w6, v6, w8, w9, w10, w11, w12, w13, w14, w15]))))))) ∧ (r1 = 0 → Post (some (ab_I 1)) [w0, w1, w2, w3, w4, w5, w6, w7, w8, w9, w10, w11, w12, w13, w14, w15])))) :
    ab_J x 0 [some (ab_O 0), some (ab_O 14), some (ab_I a2), none] [] [w0, w1, w2, w3, w4, w5, w6, w7, w8, w9, w10, w11, w12, w13, w14, w15] kc ks := ab_go hx kX8_cutLayer.2 25 [] 0 h
set_option maxRecDepth 100000 in
theorem vX8_cutLayer_15_0 {x : ab_Cx} {d mc ms : Nat} {Post : Option ab_V → List ab_Ob → Prop} (hx : ab_At x mX8_cutLayer d mc ms Post) (a2 : Int) (w0 w1 w2 w3 w4 w5 w6 w7 w8 w9 w10 w11 w12 w13 w14 w15 : ab_Ob) (kc ks : Nat)
    (h : (∃ r1 : Int, ab_Calls d 0 0 mX8_hasPiece [ab_O 0] [w0, w1, w2, w3, w4, w5, w6, w7, w8, w9, w10, w11, w12, w13, w14, w15] (some (ab_I r1)) [w0, w1, w2, w3, w4, w5, w6, w7, w8, w9, w10, w11, w12, w13, w14, w15] ∧ ((¬ r1 = 0 → (∃ mc2 ms3 : Nat, (kc + mc2 ≤ mc ∧ ks + ms3 ≤ ms) ∧ ∃ v4 : ab_Ob, ∃ v5 : ab_Ob, ∃ v6 : ab_Ob, ab_Calls d mc2 ms3 mX8_freshTree [ab_O 0] [w0, w1, w2, w3, w4, w5, w6, w7, w8, w9, w10, w11, w12, w13, w14, w15] (some (ab_O 7)) [v4, w1, w2, w3, w4, v5, w6, v6, w8, w9, w10, w11, w12, w13, w14, w15] ∧ ((a2 < 0 → Post (some (ab_I 2)) [v4, w1, w2, w3, w4, v5, w6, v6, w8, w9, w10, w11, w12, w13, w14, w15]) ∧ (¬ a2 < 0 → (∃ r7 : Int, ab_Calls d 0 0 mX7_greatestDepth [ab_O 0] [v6] (some (ab_I r7)) [v6] ∧ ((a2 ≤ r7 → (∃ v8 : ab_Ob, ab_Calls d 0 0 mX3_cut [ab_O 0, ab_O 1, ab_I a2, ab_I (w3.1 3)] [w15, v6] none [v8, v6] ∧ Post (some (ab_I 0)) [v4, w1, w2, w3, w4, v5, w6, v6, w8, w9, w10, w11, w12, w13, w14, v8])) ∧ (¬ a2 ≤ r7 → Post (some (ab_I 2)) [v4, w1, w2, w3, w4, v5, w6, v6, w8, w9, w10, w11, w12, w13, w14, w15]))))))) ∧ (r1 = 0 → Post (some (ab_I 1)) [w0, w1, w2, w3, w4, w5, w6, w7, w8, w9, w10, w11, w12, w13, w14, w15])))) :
    ab_J x 0 [some (ab_O 0), some (ab_O 15), some (ab_I a2), none] [] [w0, w1, w2, w3, w4, w5, w6, w7, w8, w9, w10, w11, w12, w13, w14, w15] kc ks := ab_go hx kX8_cutLayer.2 25 [] 0 h
def mX8_level : ab_M := ((yX8_level, cX8_level, 3, (some .int)), ([8, 4, 5, 5, 0, 1, 2, 7, 6, 1, 7, 7, 7, 7, 3, 3], [(0, 0), (0, 1), (0, 2), (0, 3), (0, 4), (0, 5), (0, 6), (0, 7), (0, 8), (0, 9), (0, 10), (0, 11), (0, 12), (0, 13), (0, 14), (0, 15)], [true, false, false, false, false, true, false, true, false, false, false, false, false, false, false, true], true, true, 0), (false, 8, 1))
def rX8_level : List ab_R := [(0, .aload_n 0, 1, 0, 0, 0, [], none),
  (1, .aload_n 0, 1, 0, 0, 0, [], none),
  (2, .getfield 87, 3, 8, 15, 0, [], none),
  (5, .iload_n 1, 1, 0, 0, 0, [], none),
  (6, .invokevirtual 262, 3, 0, 0, 0, [], some mX8_cutLayer),
  (9, .istore_n 2, 1, 0, 0, 0, [], none),
  (10, .iload_n 2, 1, 0, 0, 0, [], none),
  (11, .ifCond .ne 17, 3, 0, 0, 0, [28], none),
  (14, .aload_n 0, 1, 0, 0, 0, [], none),
  (15, .aload_n 0, 1, 0, 0, 0, [], none),
  (16, .getfield 87, 3, 8, 15, 0, [], none),
  (19, .getfield 266, 3, 3, 0, 0, [], none),
  (22, .invokevirtual 124, 3, 0, 0, 0, [], some mX8_grant),
  (25, .goto 8, 3, 0, 0, 0, [33], none),
  (28, .aload_n 0, 1, 0, 0, 0, [], none),
  (29, .iload_n 2, 1, 0, 0, 0, [], none),
  (30, .invokevirtual 101, 3, 0, 0, 0, [], some mX8_refuse),
  (33, .ireturn, 1, 0, 0, 0, [], none)]
set_option maxRecDepth 100000 in
theorem kX8_level : ab_def_ok mX8_level rX8_level := ⟨ab_mok_of 878 101 876 877 (by decide +kernel), [0, 0, 406, 0, 879, 0, 0, 0, 0, 0, 406, 375, 620, 0, 0, 0, 455, 0], by decide +kernel⟩
set_option maxRecDepth 100000 in
theorem vX8_level_0 {x : ab_Cx} {d mc ms : Nat} {Post : Option ab_V → List ab_Ob → Prop} (hx : ab_At x mX8_level d mc ms Post) (a1 : Int) (w0 w1 w2 w3 w4 w5 w6 w7 w8 w9 w10 w11 w12 w13 w14 w15 : ab_Ob) (kc ks : Nat)
    (h : (∃ mc1 ms2 : Nat, (kc + mc1 ≤ mc ∧ ks + ms2 ≤ ms) ∧ ∃ r3 : Int, ∃ v4 : ab_Ob, ∃ v5 : ab_Ob, ∃ v6 : ab_Ob, ∃ v7 : ab_Ob, ab_Calls d mc1 ms2 mX8_cutLayer [ab_O 0, ab_O 14, ab_I a1] [w0, w1, w2, w3, w4, w5, w6, w7, w8, w9, w10, w11, w12, w13, w14, w15] (some (ab_I r3)) [v4, w1, w2, w3, w4, v5, w6, v6, w8, w9, w10, w11, w12, w13, w14, v7] ∧ ((¬ r3 = 0 → (∃ r8 : Int, ∃ v9 : ab_Ob, ab_Calls d 0 0 mX8_refuse [ab_O 0, ab_I r3] [v4, w1, w2, w3, w4, v5, w6, v6, w8, w9, w10, w11, w12, w13, w14, v7] (some (ab_I r8)) [v9, w1, w2, w3, w4, v5, w6, v6, w8, w9, w10, w11, w12, w13, w14, v7] ∧ Post (some (ab_I r8)) [v9, w1, w2, w3, w4, v5, w6, v6, w8, w9, w10, w11, w12, w13, w14, v7])) ∧ (r3 = 0 → (∃ r10 : Int, ∃ v11 : ab_Ob, ab_Calls d 0 0 mX8_grant [ab_O 0, ab_I (w14.1 0)] [v4, w1, w2, w3, w4, v5, w6, v6, w8, w9, w10, w11, w12, w13, w14, v7] (some (ab_I r10)) [v11, w1, w2, w3, w4, v5, w6, v6, w8, w9, w10, w11, w12, w13, w14, v7] ∧ Post (some (ab_I r10)) [v11, w1, w2, w3, w4, v5, w6, v6, w8, w9, w10, w11, w12, w13, w14, v7]))))) :
    ab_J x 0 [some (ab_O 0), some (ab_I a1), none] [] [w0, w1, w2, w3, w4, w5, w6, w7, w8, w9, w10, w11, w12, w13, w14, w15] kc ks := ab_go hx kX8_level.2 19 [] 0 h
def mX8_levelNote : ab_M := ((yX8_levelNote, cX8_levelNote, 5, (some .int)), ([8, 4, 5, 5, 0, 1, 2, 7, 6, 1, 7, 7, 7, 7, 3, 3], [(0, 0), (0, 1), (0, 2), (0, 3), (0, 4), (0, 5), (0, 6), (0, 7), (0, 8), (0, 9), (0, 10), (0, 11), (0, 12), (0, 13), (0, 14), (0, 15)], [true, false, false, false, false, true, false, true, false, false, false, false, false, false, false, true], true, true, 0), (false, 8, 3))
def rX8_levelNote : List ab_R := [(0, .aload_n 0, 1, 0, 0, 0, [], none),
  (1, .aload_n 0, 1, 0, 0, 0, [], none),
  (2, .getfield 87, 3, 8, 15, 0, [], none),
  (5, .iload_n 1, 1, 0, 0, 0, [], none),
  (6, .invokevirtual 262, 3, 0, 0, 0, [], some mX8_cutLayer),
  (9, .istore 4, 2, 0, 0, 0, [], none),
  (11, .iload 4, 2, 0, 0, 0, [], none),
  (13, .ifCond .eq 10, 3, 0, 0, 0, [23], none),
  (16, .aload_n 0, 1, 0, 0, 0, [], none),
  (17, .iload 4, 2, 0, 0, 0, [], none),
  (19, .invokevirtual 101, 3, 0, 0, 0, [], some mX8_refuse),
  (22, .ireturn, 1, 0, 0, 0, [], none),
  (23, .iload_n 2, 1, 0, 0, 0, [], none),
  (24, .ifCond .lt 14, 3, 0, 0, 0, [38], none),
  (27, .iload_n 2, 1, 0, 0, 0, [], none),
  (28, .aload_n 0, 1, 0, 0, 0, [], none),
  (29, .getfield 87, 3, 8, 15, 0, [], none),
  (32, .getfield 266, 3, 3, 0, 0, [], none),
  (35, .if_icmp .lt 9, 3, 0, 0, 0, [44], none),
  (38, .aload_n 0, 1, 0, 0, 0, [], none),
  (39, .iconst 1, 1, 0, 0, 0, [], none),
  (40, .invokevirtual 101, 3, 0, 0, 0, [], some mX8_refuse),
  (43, .ireturn, 1, 0, 0, 0, [], none),
  (44, .iload_n 3, 1, 0, 0, 0, [], none),
  (45, .tableswitch 93 0 2 #[27, 41, 63], 27, 0, 0, 0, [138, 72, 86, 108], none),
  (72, .aload_n 0, 1, 0, 0, 0, [], none),
  (73, .aload_n 0, 1, 0, 0, 0, [], none),
  (74, .getfield 87, 3, 8, 15, 0, [], none),
  (77, .getfield 267, 3, 3, 1, 0, [], none),
  (80, .iload_n 2, 1, 0, 0, 0, [], none),
  (81, .iaload, 1, 0, 0, 0, [], none),
  (82, .invokevirtual 124, 3, 0, 0, 0, [], some mX8_grant),
  (85, .ireturn, 1, 0, 0, 0, [], none),
  (86, .aload_n 0, 1, 0, 0, 0, [], none),
  (87, .aload_n 0, 1, 0, 0, 0, [], none),
  (88, .getfield 23, 3, 8, 2, 0, [], none),
  (91, .getfield 162, 3, 5, 7, 0, [], none),
  (94, .aload_n 0, 1, 0, 0, 0, [], none),
  (95, .getfield 87, 3, 8, 15, 0, [], none),
  (98, .getfield 270, 3, 3, 2, 0, [], none),
  (101, .iload_n 2, 1, 0, 0, 0, [], none),
  (102, .iaload, 1, 0, 0, 0, [], none),
  (103, .iaload, 1, 0, 0, 0, [], none),
  (104, .invokevirtual 124, 3, 0, 0, 0, [], some mX8_grant),
  (107, .ireturn, 1, 0, 0, 0, [], none),
  (108, .aload_n 0, 1, 0, 0, 0, [], none),
  (109, .aload_n 0, 1, 0, 0, 0, [], none),
  (110, .getfield 23, 3, 8, 2, 0, [], none),
  (113, .aload_n 0, 1, 0, 0, 0, [], none),
  (114, .getfield 87, 3, 8, 15, 0, [], none),
  (117, .getfield 270, 3, 3, 2, 0, [], none),
  (120, .iload_n 2, 1, 0, 0, 0, [], none),
  (121, .iaload, 1, 0, 0, 0, [], none),
  (122, .aload_n 0, 1, 0, 0, 0, [], none),
  (123, .getfield 87, 3, 8, 15, 0, [], none),
  (126, .getfield 271, 3, 3, 3, 0, [], none),
  (129, .iload_n 2, 1, 0, 0, 0, [], none),
  (130, .iaload, 1, 0, 0, 0, [], none),
  (131, .invokevirtual 143, 3, 0, 0, 0, [], some mX5_lasting),
  (134, .invokevirtual 124, 3, 0, 0, 0, [], some mX8_grant),
  (137, .ireturn, 1, 0, 0, 0, [], none),
  (138, .aload_n 0, 1, 0, 0, 0, [], none),
  (139, .iconst 1, 1, 0, 0, 0, [], none),
  (140, .invokevirtual 101, 3, 0, 0, 0, [], some mX8_refuse),
  (143, .ireturn, 1, 0, 0, 0, [], none)]
set_option maxRecDepth 100000 in
theorem kX8_levelNote : ab_def_ok mX8_levelNote rX8_levelNote := ⟨ab_mok_of 890 101 888 889 (by decide +kernel), [0, 0, 406, 0, 879, 0, 0, 0, 0, 0, 455, 0, 0, 0, 0, 0, 406, 375, 0, 0, 0, 455, 0, 0, 0, 0, 0, 406, 377, 0, 0, 620, 0, 0, 0, 393, 165, 0, 406, 379, 0, 0, 0, 620, 0, 0, 0, 393, 0, 406, 379, 0, 0, 0, 406, 381, 0, 0, 640, 620, 0, 0, 0, 455, 0], by decide +kernel⟩
set_option maxRecDepth 100000 in
theorem vX8_levelNote_0 {x : ab_Cx} {d mc ms : Nat} {Post : Option ab_V → List ab_Ob → Prop} (hx : ab_At x mX8_levelNote d mc ms Post) (a1 a2 a3 : Int) (w0 w1 w2 w3 w4 w5 w6 w7 w8 w9 w10 w11 w12 w13 w14 w15 : ab_Ob) (kc ks : Nat)
    (h : (∃ mc1 ms2 : Nat, (kc + mc1 ≤ mc ∧ ks + ms2 ≤ ms) ∧ ∃ r3 : Int, ∃ v4 : ab_Ob, ∃ v5 : ab_Ob, ∃ v6 : ab_Ob, ∃ v7 : ab_Ob, ab_Calls d mc1 ms2 mX8_cutLayer [ab_O 0, ab_O 14, ab_I a1] [w0, w1, w2, w3, w4, w5, w6, w7, w8, w9, w10, w11, w12, w13, w14, w15] (some (ab_I r3)) [v4, w1, w2, w3, w4, v5, w6, v6, w8, w9, w10, w11, w12, w13, w14, v7] ∧ ((r3 = 0 → ((a2 < 0 → (∃ r8 : Int, ∃ v9 : ab_Ob, ab_Calls d 0 0 mX8_refuse [ab_O 0, ab_I 1] [v4, w1, w2, w3, w4, v5, w6, v6, w8, w9, w10, w11, w12, w13, w14, v7] (some (ab_I r8)) [v9, w1, w2, w3, w4, v5, w6, v6, w8, w9, w10, w11, w12, w13, w14, v7] ∧ Post (some (ab_I r8)) [v9, w1, w2, w3, w4, v5, w6, v6, w8, w9, w10, w11, w12, w13, w14, v7])) ∧ (¬ a2 < 0 → ((a2 < (w14.1 0) → ((a3 < 0 ∨ 2 < a3 → (∃ r17 : Int, ∃ v18 : ab_Ob, ab_Calls d 0 0 mX8_refuse [ab_O 0, ab_I 1] [v4, w1, w2, w3, w4, v5, w6, v6, w8, w9, w10, w11, w12, w13, w14, v7] (some (ab_I r17)) [v18, w1, w2, w3, w4, v5, w6, v6, w8, w9, w10, w11, w12, w13, w14, v7] ∧ Post (some (ab_I r17)) [v18, w1, w2, w3, w4, v5, w6, v6, w8, w9, w10, w11, w12, w13, w14, v7])) ∧ ((a3 = 0 → ((0 ≤ a2 ∧ a2 < (w14.2 1).1) ∧ (∃ r15 : Int, ∃ v16 : ab_Ob, ab_Calls d 0 0 mX8_grant [ab_O 0, ab_I ((w14.2 1).2 a2)] [v4, w1, w2, w3, w4, v5, w6, v6, w8, w9, w10, w11, w12, w13, w14, v7] (some (ab_I r15)) [v16, w1, w2, w3, w4, v5, w6, v6, w8, w9, w10, w11, w12, w13, w14, v7] ∧ Post (some (ab_I r15)) [v16, w1, w2, w3, w4, v5, w6, v6, w8, w9, w10, w11, w12, w13, w14, v7]))) ∧ ((a3 = 1 → ((0 ≤ a2 ∧ a2 < (w14.2 2).1) ∧ ((0 ≤ ((w14.2 2).2 a2) ∧ ((w14.2 2).2 a2) < (w3.2 7).1) ∧ (∃ r13 : Int, ∃ v14 : ab_Ob, ab_Calls d 0 0 mX8_grant [ab_O 0, ab_I ((w3.2 7).2 ((w14.2 2).2 a2))] [v4, w1, w2, w3, w4, v5, w6, v6, w8, w9, w10, w11, w12, w13, w14, v7] (some (ab_I r13)) [v14, w1, w2, w3, w4, v5, w6, v6, w8, w9, w10, w11, w12, w13, w14, v7] ∧ Post (some (ab_I r13)) [v14, w1, w2, w3, w4, v5, w6, v6, w8, w9, w10, w11, w12, w13, w14, v7])))) ∧ ((a3 = 2 → ((0 ≤ a2 ∧ a2 < (w14.2 2).1) ∧ ((0 ≤ a2 ∧ a2 < (w14.2 3).1) ∧ (∃ r10 : Int, ab_Calls d 0 0 mX5_lasting [ab_O 0, ab_I ((w14.2 2).2 a2), ab_I ((w14.2 3).2 a2)] [w3] (some (ab_I r10)) [w3] ∧ (∃ r11 : Int, ∃ v12 : ab_Ob, ab_Calls d 0 0 mX8_grant [ab_O 0, ab_I r10] [v4, w1, w2, w3, w4, v5, w6, v6, w8, w9, w10, w11, w12, w13, w14, v7] (some (ab_I r11)) [v12, w1, w2, w3, w4, v5, w6, v6, w8, w9, w10, w11, w12, w13, w14, v7] ∧ Post (some (ab_I r11)) [v12, w1, w2, w3, w4, v5, w6, v6, w8, w9, w10, w11, w12, w13, w14, v7]))))) ∧ True))))) ∧ (¬ a2 < (w14.1 0) → (∃ r19 : Int, ∃ v20 : ab_Ob, ab_Calls d 0 0 mX8_refuse [ab_O 0, ab_I 1] [v4, w1, w2, w3, w4, v5, w6, v6, w8, w9, w10, w11, w12, w13, w14, v7] (some (ab_I r19)) [v20, w1, w2, w3, w4, v5, w6, v6, w8, w9, w10, w11, w12, w13, w14, v7] ∧ Post (some (ab_I r19)) [v20, w1, w2, w3, w4, v5, w6, v6, w8, w9, w10, w11, w12, w13, w14, v7])))))) ∧ (¬ r3 = 0 → (∃ r21 : Int, ∃ v22 : ab_Ob, ab_Calls d 0 0 mX8_refuse [ab_O 0, ab_I r3] [v4, w1, w2, w3, w4, v5, w6, v6, w8, w9, w10, w11, w12, w13, w14, v7] (some (ab_I r21)) [v22, w1, w2, w3, w4, v5, w6, v6, w8, w9, w10, w11, w12, w13, w14, v7] ∧ Post (some (ab_I r21)) [v22, w1, w2, w3, w4, v5, w6, v6, w8, w9, w10, w11, w12, w13, w14, v7]))))) :
    ab_J x 0 [some (ab_O 0), some (ab_I a1), some (ab_I a2), some (ab_I a3), none] [] [w0, w1, w2, w3, w4, w5, w6, w7, w8, w9, w10, w11, w12, w13, w14, w15] kc ks := ab_go hx kX8_levelNote.2 37 [] 0 h
def mX8_path : ab_M := ((yX8_path, cX8_path, 5, (some .int)), ([8, 4, 5, 5, 0, 1, 2, 7, 6, 1, 7, 7, 7, 7, 3, 3], [(0, 0), (0, 1), (0, 2), (0, 3), (0, 4), (0, 5), (0, 6), (0, 7), (0, 8), (0, 9), (0, 10), (0, 11), (0, 12), (0, 13), (0, 14), (0, 15)], [true, false, false, false, false, true, false, true, false, false, false, false, false, false, false, true], true, true, 0), (false, 8, 1))
def rX8_path : List ab_R := [(0, .aload_n 0, 1, 0, 0, 0, [], none),
  (1, .aload_n 0, 1, 0, 0, 0, [], none),
  (2, .getfield 87, 3, 8, 15, 0, [], none),
  (5, .iload_n 1, 1, 0, 0, 0, [], none),
  (6, .invokevirtual 262, 3, 0, 0, 0, [], some mX8_cutLayer),
  (9, .istore_n 2, 1, 0, 0, 0, [], none),
  (10, .iload_n 2, 1, 0, 0, 0, [], none),
  (11, .ifCond .eq 9, 3, 0, 0, 0, [20], none),
  (14, .aload_n 0, 1, 0, 0, 0, [], none),
  (15, .iload_n 2, 1, 0, 0, 0, [], none),
  (16, .invokevirtual 101, 3, 0, 0, 0, [], some mX8_refuse),
  (19, .ireturn, 1, 0, 0, 0, [], none),
  (20, .iconst 0, 1, 0, 0, 0, [], none),
  (21, .istore_n 3, 1, 0, 0, 0, [], none),
  (22, .iconst 0, 1, 0, 0, 0, [], none),
  (23, .istore 4, 2, 0, 0, 0, [], none),
  (25, .iload 4, 2, 0, 0, 0, [], none),
  (27, .iconst 1, 1, 0, 0, 0, [], none),
  (28, .iadd, 1, 0, 0, 0, [], none),
  (29, .aload_n 0, 1, 0, 0, 0, [], none),
  (30, .getfield 87, 3, 8, 15, 0, [], none),
  (33, .getfield 266, 3, 3, 0, 0, [], none),
  (36, .if_icmp .ge 28, 3, 0, 0, 0, [64], none),
  (39, .iload_n 3, 1, 0, 0, 0, [], none),
  (40, .aload_n 0, 1, 0, 0, 0, [], none),
  (41, .getfield 87, 3, 8, 15, 0, [], none),
  (44, .aload_n 0, 1, 0, 0, 0, [], none),
  (45, .getfield 23, 3, 8, 2, 0, [], none),
  (48, .iload 4, 2, 0, 0, 0, [], none),
  (50, .invokevirtual 272, 3, 0, 0, 0, [], some mX3_stepFrom),
  (53, .invokestatic 275, 3, 0, 0, 12, [], none),
  (56, .iadd, 1, 0, 0, 0, [], none),
  (57, .istore_n 3, 1, 0, 0, 0, [], none),
  (58, .iinc 4 1, 3, 0, 0, 0, [], none),
  (61, .goto (-36), 3, 0, 0, 0, [25], none),
  (64, .aload_n 0, 1, 0, 0, 0, [], none),
  (65, .iload_n 3, 1, 0, 0, 0, [], none),
  (66, .invokevirtual 124, 3, 0, 0, 0, [], some mX8_grant),
  (69, .ireturn, 1, 0, 0, 0, [], none)]
set_option maxRecDepth 100000 in
theorem kX8_path : ab_def_ok mX8_path rX8_path := ⟨ab_mok_of 894 101 892 893 (by decide +kernel), [0, 0, 406, 0, 879, 0, 0, 0, 0, 0, 455, 0, 0, 0, 0, 0, 0, 0, 0, 0, 406, 375, 0, 0, 0, 406, 0, 393, 0, 895, 899, 0, 0, 0, 0, 0, 0, 620, 0], by decide +kernel⟩
set_option maxRecDepth 100000 in
theorem vX8_path_0 {x : ab_Cx} {d mc ms : Nat} {Post : Option ab_V → List ab_Ob → Prop} (hx : ab_At x mX8_path d mc ms Post) (a1 : Int) (w0 w1 w2 w3 w4 w5 w6 w7 w8 w9 w10 w11 w12 w13 w14 w15 : ab_Ob) (kc ks : Nat)
    (h : (∃ mc1 ms2 : Nat, (kc + mc1 ≤ mc ∧ ks + ms2 ≤ ms) ∧ ∃ r3 : Int, ∃ v4 : ab_Ob, ∃ v5 : ab_Ob, ∃ v6 : ab_Ob, ∃ v7 : ab_Ob, ab_Calls d mc1 ms2 mX8_cutLayer [ab_O 0, ab_O 14, ab_I a1] [w0, w1, w2, w3, w4, w5, w6, w7, w8, w9, w10, w11, w12, w13, w14, w15] (some (ab_I r3)) [v4, w1, w2, w3, w4, v5, w6, v6, w8, w9, w10, w11, w12, w13, w14, v7] ∧ ((r3 = 0 → ab_J x 25 [some (ab_O 0), none, none, some (ab_I 0), some (ab_I 0)] [] [v4, w1, w2, w3, w4, v5, w6, v6, w8, w9, w10, w11, w12, w13, w14, v7] (kc + mc1) (ks + ms2)) ∧ (¬ r3 = 0 → (∃ r8 : Int, ∃ v9 : ab_Ob, ab_Calls d 0 0 mX8_refuse [ab_O 0, ab_I r3] [v4, w1, w2, w3, w4, v5, w6, v6, w8, w9, w10, w11, w12, w13, w14, v7] (some (ab_I r8)) [v9, w1, w2, w3, w4, v5, w6, v6, w8, w9, w10, w11, w12, w13, w14, v7] ∧ Post (some (ab_I r8)) [v9, w1, w2, w3, w4, v5, w6, v6, w8, w9, w10, w11, w12, w13, w14, v7]))))) :
    ab_J x 0 [some (ab_O 0), some (ab_I a1), none, none, none] [] [w0, w1, w2, w3, w4, w5, w6, w7, w8, w9, w10, w11, w12, w13, w14, w15] kc ks := ab_go hx kX8_path.2 17 [(25, [true, false, false, true, true])] 0 h
set_option maxRecDepth 100000 in
theorem vX8_path_25 {x : ab_Cx} {d mc ms : Nat} {Post : Option ab_V → List ab_Ob → Prop} (hx : ab_At x mX8_path d mc ms Post) (l3 l4 : Int) (w0 w1 w2 w3 w4 w5 w6 w7 w8 w9 w10 w11 w12 w13 w14 w15 : ab_Ob) (kc ks : Nat)
    (h : ((-2147483648 ≤ l4 + 1 ∧ l4 + 1 ≤ 2147483647) ∧ (((w14.1 0) ≤ (l4 + 1) → (∃ r1 : Int, ∃ v2 : ab_Ob, ab_Calls d 0 0 mX8_grant [ab_O 0, ab_I l3] [w0, w1, w2, w3, w4, w5, w6, w7, w8, w9, w10, w11, w12, w13, w14, w15] (some (ab_I r1)) [v2, w1, w2, w3, w4, w5, w6, w7, w8, w9, w10, w11, w12, w13, w14, w15] ∧ Post (some (ab_I r1)) [v2, w1, w2, w3, w4, w5, w6, w7, w8, w9, w10, w11, w12, w13, w14, w15])) ∧ (¬ (w14.1 0) ≤ (l4 + 1) → (∃ r3 : Int, ab_Calls d 0 0 mX3_stepFrom [ab_O 0, ab_O 1, ab_I l4] [w14, w3] (some (ab_I r3)) [w14, w3] ∧ ((-2147483648 ≤ -r3 ∧ -r3 ≤ 2147483647) ∧ ((-2147483648 ≤ l3 + (if 0 ≤ r3 then r3 else 0 - r3) ∧ l3 + (if 0 ≤ r3 then r3 else 0 - r3) ≤ 2147483647) ∧ ((-2147483648 ≤ l4 + 1 ∧ l4 + 1 ≤ 2147483647) ∧ ab_J x 25 [some (ab_O 0), none, none, some (ab_I (l3 + (if 0 ≤ r3 then r3 else 0 - r3))), some (ab_I (l4 + 1))] [] [w0, w1, w2, w3, w4, w5, w6, w7, w8, w9, w10, w11, w12, w13, w14, w15] kc ks)))))))) :
    ab_J x 25 [some (ab_O 0), none, none, some (ab_I l3), some (ab_I l4)] [] [w0, w1, w2, w3, w4, w5, w6, w7, w8, w9, w10, w11, w12, w13, w14, w15] kc ks := ab_go hx kX8_path.2 24 [(25, [true, false, false, true, true])] 25 h
def mX8_reach : ab_M := ((yX8_reach, cX8_reach, 4, (some .int)), ([8, 4, 5, 5, 0, 1, 2, 7, 6, 1, 7, 7, 7, 7, 3, 3], [(0, 0), (0, 1), (0, 2), (0, 3), (0, 4), (0, 5), (0, 6), (0, 7), (0, 8), (0, 9), (0, 10), (0, 11), (0, 12), (0, 13), (0, 14), (0, 15)], [true, false, false, false, false, true, false, true, false, false, false, false, false, false, false, false], true, true, 0), (false, 8, 2))
def rX8_reach : List ab_R := [(0, .aload_n 0, 1, 0, 0, 0, [], none),
  (1, .iload_n 1, 1, 0, 0, 0, [], none),
  (2, .invokevirtual 151, 3, 0, 0, 0, [], some mX8_hasNote),
  (5, .ifCond .ne 9, 3, 0, 0, 0, [14], none),
  (8, .aload_n 0, 1, 0, 0, 0, [], none),
  (9, .iconst 1, 1, 0, 0, 0, [], none),
  (10, .invokevirtual 101, 3, 0, 0, 0, [], some mX8_refuse),
  (13, .ireturn, 1, 0, 0, 0, [], none),
  (14, .aload_n 0, 1, 0, 0, 0, [], none),
  (15, .invokevirtual 171, 3, 0, 0, 0, [], some mX8_freshTree),
  (18, .astore_n 3, 1, 0, 0, 0, [], none),
  (19, .iload_n 2, 1, 0, 0, 0, [], none),
  (20, .tableswitch 58 0 2 #[28, 38, 48], 28, 0, 0, 0, [78, 48, 58, 68], none),
  (48, .aload_n 0, 1, 0, 0, 0, [], none),
  (49, .aload_n 3, 1, 0, 0, 0, [], none),
  (50, .iload_n 1, 1, 0, 0, 0, [], none),
  (51, .invokevirtual 278, 3, 0, 0, 0, [], some mX7_partFirst),
  (54, .invokevirtual 124, 3, 0, 0, 0, [], some mX8_grant),
  (57, .ireturn, 1, 0, 0, 0, [], none),
  (58, .aload_n 0, 1, 0, 0, 0, [], none),
  (59, .aload_n 3, 1, 0, 0, 0, [], none),
  (60, .iload_n 1, 1, 0, 0, 0, [], none),
  (61, .invokevirtual 281, 3, 0, 0, 0, [], some mX7_partLast),
  (64, .invokevirtual 124, 3, 0, 0, 0, [], some mX8_grant),
  (67, .ireturn, 1, 0, 0, 0, [], none),
  (68, .aload_n 0, 1, 0, 0, 0, [], none),
  (69, .aload_n 3, 1, 0, 0, 0, [], none),
  (70, .iload_n 1, 1, 0, 0, 0, [], none),
  (71, .invokevirtual 284, 3, 0, 0, 0, [], some mX7_noteOver),
  (74, .invokevirtual 124, 3, 0, 0, 0, [], some mX8_grant),
  (77, .ireturn, 1, 0, 0, 0, [], none),
  (78, .aload_n 0, 1, 0, 0, 0, [], none),
  (79, .iconst 1, 1, 0, 0, 0, [], none),
  (80, .invokevirtual 101, 3, 0, 0, 0, [], some mX8_refuse),
  (83, .ireturn, 1, 0, 0, 0, [], none)]
set_option maxRecDepth 100000 in
theorem kX8_reach : ab_def_ok mX8_reach rX8_reach := ⟨ab_mok_of 903 101 901 902 (by decide +kernel), [0, 0, 652, 0, 0, 0, 455, 0, 0, 656, 0, 0, 0, 0, 0, 0, 904, 620, 0, 0, 0, 0, 908, 620, 0, 0, 0, 0, 912, 620, 0, 0, 0, 455, 0], by decide +kernel⟩
set_option maxRecDepth 100000 in
theorem vX8_reach_0 {x : ab_Cx} {d mc ms : Nat} {Post : Option ab_V → List ab_Ob → Prop} (hx : ab_At x mX8_reach d mc ms Post) (a1 a2 : Int) (w0 w1 w2 w3 w4 w5 w6 w7 w8 w9 w10 w11 w12 w13 w14 w15 : ab_Ob) (kc ks : Nat)
    (h : (∃ r1 : Int, ab_Calls d 0 0 mX8_hasNote [ab_O 0, ab_I a1] [w0, w1, w2, w3, w4, w5, w6, w7, w8, w9, w10, w11, w12, w13, w14, w15] (some (ab_I r1)) [w0, w1, w2, w3, w4, w5, w6, w7, w8, w9, w10, w11, w12, w13, w14, w15] ∧ ((¬ r1 = 0 → (∃ mc2 ms3 : Nat, (kc + mc2 ≤ mc ∧ ks + ms3 ≤ ms) ∧ ∃ v4 : ab_Ob, ∃ v5 : ab_Ob, ∃ v6 : ab_Ob, ab_Calls d mc2 ms3 mX8_freshTree [ab_O 0] [w0, w1, w2, w3, w4, w5, w6, w7, w8, w9, w10, w11, w12, w13, w14, w15] (some (ab_O 7)) [v4, w1, w2, w3, w4, v5, w6, v6, w8, w9, w10, w11, w12, w13, w14, w15] ∧ ((a2 < 0 ∨ 2 < a2 → (∃ r16 : Int, ∃ v17 : ab_Ob, ab_Calls d 0 0 mX8_refuse [ab_O 0, ab_I 1] [v4, w1, w2, w3, w4, v5, w6, v6, w8, w9, w10, w11, w12, w13, w14, w15] (some (ab_I r16)) [v17, w1, w2, w3, w4, v5, w6, v6, w8, w9, w10, w11, w12, w13, w14, w15] ∧ Post (some (ab_I r16)) [v17, w1, w2, w3, w4, v5, w6, v6, w8, w9, w10, w11, w12, w13, w14, w15])) ∧ ((a2 = 0 → (∃ r13 : Int, ab_Calls d 0 0 mX7_partFirst [ab_O 0, ab_I a1] [v6] (some (ab_I r13)) [v6] ∧ (∃ r14 : Int, ∃ v15 : ab_Ob, ab_Calls d 0 0 mX8_grant [ab_O 0, ab_I r13] [v4, w1, w2, w3, w4, v5, w6, v6, w8, w9, w10, w11, w12, w13, w14, w15] (some (ab_I r14)) [v15, w1, w2, w3, w4, v5, w6, v6, w8, w9, w10, w11, w12, w13, w14, w15] ∧ Post (some (ab_I r14)) [v15, w1, w2, w3, w4, v5, w6, v6, w8, w9, w10, w11, w12, w13, w14, w15]))) ∧ ((a2 = 1 → (∃ r10 : Int, ab_Calls d 0 0 mX7_partLast [ab_O 0, ab_I a1] [v6] (some (ab_I r10)) [v6] ∧ (∃ r11 : Int, ∃ v12 : ab_Ob, ab_Calls d 0 0 mX8_grant [ab_O 0, ab_I r10] [v4, w1, w2, w3, w4, v5, w6, v6, w8, w9, w10, w11, w12, w13, w14, w15] (some (ab_I r11)) [v12, w1, w2, w3, w4, v5, w6, v6, w8, w9, w10, w11, w12, w13, w14, w15] ∧ Post (some (ab_I r11)) [v12, w1, w2, w3, w4, v5, w6, v6, w8, w9, w10, w11, w12, w13, w14, w15]))) ∧ ((a2 = 2 → (∃ r7 : Int, ab_Calls d 0 0 mX7_noteOver [ab_O 0, ab_I a1] [v6] (some (ab_I r7)) [v6] ∧ (∃ r8 : Int, ∃ v9 : ab_Ob, ab_Calls d 0 0 mX8_grant [ab_O 0, ab_I r7] [v4, w1, w2, w3, w4, v5, w6, v6, w8, w9, w10, w11, w12, w13, w14, w15] (some (ab_I r8)) [v9, w1, w2, w3, w4, v5, w6, v6, w8, w9, w10, w11, w12, w13, w14, w15] ∧ Post (some (ab_I r8)) [v9, w1, w2, w3, w4, v5, w6, v6, w8, w9, w10, w11, w12, w13, w14, w15]))) ∧ True)))))) ∧ (r1 = 0 → (∃ r18 : Int, ∃ v19 : ab_Ob, ab_Calls d 0 0 mX8_refuse [ab_O 0, ab_I 1] [w0, w1, w2, w3, w4, w5, w6, w7, w8, w9, w10, w11, w12, w13, w14, w15] (some (ab_I r18)) [v19, w1, w2, w3, w4, w5, w6, w7, w8, w9, w10, w11, w12, w13, w14, w15] ∧ Post (some (ab_I r18)) [v19, w1, w2, w3, w4, w5, w6, w7, w8, w9, w10, w11, w12, w13, w14, w15]))))) :
    ab_J x 0 [some (ab_O 0), some (ab_I a1), some (ab_I a2), none] [] [w0, w1, w2, w3, w4, w5, w6, w7, w8, w9, w10, w11, w12, w13, w14, w15] kc ks := ab_go hx kX8_reach.2 19 [] 0 h
def mX8_climax : ab_M := ((yX8_climax, cX8_climax, 5, (some .int)), ([8, 4, 5, 5, 0, 1, 2, 7, 6, 1, 7, 7, 7, 7, 3, 3], [(0, 0), (0, 1), (0, 2), (0, 3), (0, 4), (0, 5), (0, 6), (0, 7), (0, 8), (0, 9), (0, 10), (0, 11), (0, 12), (0, 13), (0, 14), (0, 15)], [true, false, false, false, false, true, false, true, false, false, false, false, false, false, false, true], true, true, 0), (false, 8, 1))
def rX8_climax : List ab_R := [(0, .aload_n 0, 1, 0, 0, 0, [], none),
  (1, .aload_n 0, 1, 0, 0, 0, [], none),
  (2, .getfield 87, 3, 8, 15, 0, [], none),
  (5, .iload_n 1, 1, 0, 0, 0, [], none),
  (6, .invokevirtual 262, 3, 0, 0, 0, [], some mX8_cutLayer),
  (9, .istore_n 2, 1, 0, 0, 0, [], none),
  (10, .iload_n 2, 1, 0, 0, 0, [], none),
  (11, .ifCond .eq 9, 3, 0, 0, 0, [20], none),
  (14, .aload_n 0, 1, 0, 0, 0, [], none),
  (15, .iload_n 2, 1, 0, 0, 0, [], none),
  (16, .invokevirtual 101, 3, 0, 0, 0, [], some mX8_refuse),
  (19, .ireturn, 1, 0, 0, 0, [], none),
  (20, .aload_n 0, 1, 0, 0, 0, [], none),
  (21, .getfield 87, 3, 8, 15, 0, [], none),
  (24, .getfield 267, 3, 3, 1, 0, [], none),
  (27, .iconst 0, 1, 0, 0, 0, [], none),
  (28, .iaload, 1, 0, 0, 0, [], none),
  (29, .istore_n 3, 1, 0, 0, 0, [], none),
  (30, .iconst 1, 1, 0, 0, 0, [], none),
  (31, .istore 4, 2, 0, 0, 0, [], none),
  (33, .iload 4, 2, 0, 0, 0, [], none),
  (35, .aload_n 0, 1, 0, 0, 0, [], none),
  (36, .getfield 87, 3, 8, 15, 0, [], none),
  (39, .getfield 266, 3, 3, 0, 0, [], none),
  (42, .if_icmp .ge 50, 3, 0, 0, 0, [92], none),
  (45, .aload_n 0, 1, 0, 0, 0, [], none),
  (46, .getfield 23, 3, 8, 2, 0, [], none),
  (49, .getfield 155, 3, 5, 4, 0, [], none),
  (52, .aload_n 0, 1, 0, 0, 0, [], none),
  (53, .getfield 87, 3, 8, 15, 0, [], none),
  (56, .getfield 267, 3, 3, 1, 0, [], none),
  (59, .iload 4, 2, 0, 0, 0, [], none),
  (61, .iaload, 1, 0, 0, 0, [], none),
  (62, .iaload, 1, 0, 0, 0, [], none),
  (63, .aload_n 0, 1, 0, 0, 0, [], none),
  (64, .getfield 23, 3, 8, 2, 0, [], none),
  (67, .getfield 155, 3, 5, 4, 0, [], none),
  (70, .iload_n 3, 1, 0, 0, 0, [], none),
  (71, .iaload, 1, 0, 0, 0, [], none),
  (72, .if_icmp .le 14, 3, 0, 0, 0, [86], none),
  (75, .aload_n 0, 1, 0, 0, 0, [], none),
  (76, .getfield 87, 3, 8, 15, 0, [], none),
  (79, .getfield 267, 3, 3, 1, 0, [], none),
  (82, .iload 4, 2, 0, 0, 0, [], none),
  (84, .iaload, 1, 0, 0, 0, [], none),
  (85, .istore_n 3, 1, 0, 0, 0, [], none),
  (86, .iinc 4 1, 3, 0, 0, 0, [], none),
  (89, .goto (-56), 3, 0, 0, 0, [33], none),
  (92, .aload_n 0, 1, 0, 0, 0, [], none),
  (93, .iload_n 3, 1, 0, 0, 0, [], none),
  (94, .invokevirtual 124, 3, 0, 0, 0, [], some mX8_grant),
  (97, .ireturn, 1, 0, 0, 0, [], none)]
set_option maxRecDepth 100000 in
theorem kX8_climax : ab_def_ok mX8_climax rX8_climax := ⟨ab_mok_of 919 101 917 918 (by decide +kernel), [0, 0, 406, 0, 879, 0, 0, 0, 0, 0, 455, 0, 0, 406, 377, 0, 0, 0, 0, 0, 0, 0, 406, 375, 0, 0, 393, 156, 0, 406, 377, 0, 0, 0, 0, 393, 156, 0, 0, 0, 0, 406, 377, 0, 0, 0, 0, 0, 0, 0, 620, 0], by decide +kernel⟩
set_option maxRecDepth 100000 in
theorem vX8_climax_0 {x : ab_Cx} {d mc ms : Nat} {Post : Option ab_V → List ab_Ob → Prop} (hx : ab_At x mX8_climax d mc ms Post) (a1 : Int) (w0 w1 w2 w3 w4 w5 w6 w7 w8 w9 w10 w11 w12 w13 w14 w15 : ab_Ob) (kc ks : Nat)
    (h : (∃ mc1 ms2 : Nat, (kc + mc1 ≤ mc ∧ ks + ms2 ≤ ms) ∧ ∃ r3 : Int, ∃ v4 : ab_Ob, ∃ v5 : ab_Ob, ∃ v6 : ab_Ob, ∃ v7 : ab_Ob, ab_Calls d mc1 ms2 mX8_cutLayer [ab_O 0, ab_O 14, ab_I a1] [w0, w1, w2, w3, w4, w5, w6, w7, w8, w9, w10, w11, w12, w13, w14, w15] (some (ab_I r3)) [v4, w1, w2, w3, w4, v5, w6, v6, w8, w9, w10, w11, w12, w13, w14, v7] ∧ ((r3 = 0 → ((0 ≤ (0 : Int) ∧ (0 : Int) < (w14.2 1).1) ∧ ab_J x 33 [some (ab_O 0), none, none, some (ab_I ((w14.2 1).2 0)), some (ab_I 1)] [] [v4, w1, w2, w3, w4, v5, w6, v6, w8, w9, w10, w11, w12, w13, w14, v7] (kc + mc1) (ks + ms2))) ∧ (¬ r3 = 0 → (∃ r8 : Int, ∃ v9 : ab_Ob, ab_Calls d 0 0 mX8_refuse [ab_O 0, ab_I r3] [v4, w1, w2, w3, w4, v5, w6, v6, w8, w9, w10, w11, w12, w13, w14, v7] (some (ab_I r8)) [v9, w1, w2, w3, w4, v5, w6, v6, w8, w9, w10, w11, w12, w13, w14, v7] ∧ Post (some (ab_I r8)) [v9, w1, w2, w3, w4, v5, w6, v6, w8, w9, w10, w11, w12, w13, w14, v7]))))) :
    ab_J x 0 [some (ab_O 0), some (ab_I a1), none, none, none] [] [w0, w1, w2, w3, w4, w5, w6, w7, w8, w9, w10, w11, w12, w13, w14, w15] kc ks := ab_go hx kX8_climax.2 21 [(33, [true, false, false, true, true])] 0 h
set_option maxRecDepth 100000 in
theorem vX8_climax_33 {x : ab_Cx} {d mc ms : Nat} {Post : Option ab_V → List ab_Ob → Prop} (hx : ab_At x mX8_climax d mc ms Post) (l3 l4 : Int) (w0 w1 w2 w3 w4 w5 w6 w7 w8 w9 w10 w11 w12 w13 w14 w15 : ab_Ob) (kc ks : Nat)
    (h : (((w14.1 0) ≤ l4 → (∃ r1 : Int, ∃ v2 : ab_Ob, ab_Calls d 0 0 mX8_grant [ab_O 0, ab_I l3] [w0, w1, w2, w3, w4, w5, w6, w7, w8, w9, w10, w11, w12, w13, w14, w15] (some (ab_I r1)) [v2, w1, w2, w3, w4, w5, w6, w7, w8, w9, w10, w11, w12, w13, w14, w15] ∧ Post (some (ab_I r1)) [v2, w1, w2, w3, w4, w5, w6, w7, w8, w9, w10, w11, w12, w13, w14, w15])) ∧ (¬ (w14.1 0) ≤ l4 → ((0 ≤ l4 ∧ l4 < (w14.2 1).1) ∧ ((0 ≤ ((w14.2 1).2 l4) ∧ ((w14.2 1).2 l4) < (w3.2 4).1) ∧ ((0 ≤ l3 ∧ l3 < (w3.2 4).1) ∧ ((((w3.2 4).2 ((w14.2 1).2 l4)) ≤ ((w3.2 4).2 l3) → ((-2147483648 ≤ l4 + 1 ∧ l4 + 1 ≤ 2147483647) ∧ ab_J x 33 [some (ab_O 0), none, none, some (ab_I l3), some (ab_I (l4 + 1))] [] [w0, w1, w2, w3, w4, w5, w6, w7, w8, w9, w10, w11, w12, w13, w14, w15] kc ks)) ∧ (¬ ((w3.2 4).2 ((w14.2 1).2 l4)) ≤ ((w3.2 4).2 l3) → ((0 ≤ l4 ∧ l4 < (w14.2 1).1) ∧ ((-2147483648 ≤ l4 + 1 ∧ l4 + 1 ≤ 2147483647) ∧ ab_J x 33 [some (ab_O 0), none, none, some (ab_I ((w14.2 1).2 l4)), some (ab_I (l4 + 1))] [] [w0, w1, w2, w3, w4, w5, w6, w7, w8, w9, w10, w11, w12, w13, w14, w15] kc ks)))))))))) :
    ab_J x 33 [some (ab_O 0), none, none, some (ab_I l3), some (ab_I l4)] [] [w0, w1, w2, w3, w4, w5, w6, w7, w8, w9, w10, w11, w12, w13, w14, w15] kc ks := ab_go hx kX8_climax.2 33 [(33, [true, false, false, true, true])] 33 h
def mX8_widest : ab_M := ((yX8_widest, cX8_widest, 5, (some .int)), ([8, 4, 5, 5, 0, 1, 2, 7, 6, 1, 7, 7, 7, 7, 3, 3], [(0, 0), (0, 1), (0, 2), (0, 3), (0, 4), (0, 5), (0, 6), (0, 7), (0, 8), (0, 9), (0, 10), (0, 11), (0, 12), (0, 13), (0, 14), (0, 15)], [true, false, false, false, false, true, false, true, false, false, false, false, false, false, false, true], true, true, 0), (false, 8, 1))
def rX8_widest : List ab_R := [(0, .aload_n 0, 1, 0, 0, 0, [], none),
  (1, .aload_n 0, 1, 0, 0, 0, [], none),
  (2, .getfield 87, 3, 8, 15, 0, [], none),
  (5, .iload_n 1, 1, 0, 0, 0, [], none),
  (6, .invokevirtual 262, 3, 0, 0, 0, [], some mX8_cutLayer),
  (9, .istore_n 2, 1, 0, 0, 0, [], none),
  (10, .iload_n 2, 1, 0, 0, 0, [], none),
  (11, .ifCond .eq 9, 3, 0, 0, 0, [20], none),
  (14, .aload_n 0, 1, 0, 0, 0, [], none),
  (15, .iload_n 2, 1, 0, 0, 0, [], none),
  (16, .invokevirtual 101, 3, 0, 0, 0, [], some mX8_refuse),
  (19, .ireturn, 1, 0, 0, 0, [], none),
  (20, .iconst 0, 1, 0, 0, 0, [], none),
  (21, .istore_n 3, 1, 0, 0, 0, [], none),
  (22, .iconst 0, 1, 0, 0, 0, [], none),
  (23, .istore 4, 2, 0, 0, 0, [], none),
  (25, .iload 4, 2, 0, 0, 0, [], none),
  (27, .iconst 1, 1, 0, 0, 0, [], none),
  (28, .iadd, 1, 0, 0, 0, [], none),
  (29, .aload_n 0, 1, 0, 0, 0, [], none),
  (30, .getfield 87, 3, 8, 15, 0, [], none),
  (33, .getfield 266, 3, 3, 0, 0, [], none),
  (36, .if_icmp .ge 30, 3, 0, 0, 0, [66], none),
  (39, .iload_n 3, 1, 0, 0, 0, [], none),
  (40, .aload_n 0, 1, 0, 0, 0, [], none),
  (41, .getfield 87, 3, 8, 15, 0, [], none),
  (44, .aload_n 0, 1, 0, 0, 0, [], none),
  (45, .getfield 23, 3, 8, 2, 0, [], none),
  (48, .iload 4, 2, 0, 0, 0, [], none),
  (50, .invokevirtual 272, 3, 0, 0, 0, [], some mX3_stepFrom),
  (53, .invokestatic 275, 3, 0, 0, 12, [], none),
  (56, .invokestatic 287, 3, 0, 0, 10, [], none),
  (59, .istore_n 3, 1, 0, 0, 0, [], none),
  (60, .iinc 4 1, 3, 0, 0, 0, [], none),
  (63, .goto (-38), 3, 0, 0, 0, [25], none),
  (66, .aload_n 0, 1, 0, 0, 0, [], none),
  (67, .iload_n 3, 1, 0, 0, 0, [], none),
  (68, .invokevirtual 124, 3, 0, 0, 0, [], some mX8_grant),
  (71, .ireturn, 1, 0, 0, 0, [], none)]
set_option maxRecDepth 100000 in
theorem kX8_widest : ab_def_ok mX8_widest rX8_widest := ⟨ab_mok_of 923 101 921 922 (by decide +kernel), [0, 0, 406, 0, 879, 0, 0, 0, 0, 0, 455, 0, 0, 0, 0, 0, 0, 0, 0, 0, 406, 375, 0, 0, 0, 406, 0, 393, 0, 895, 899, 924, 0, 0, 0, 0, 0, 620, 0], by decide +kernel⟩
set_option maxRecDepth 100000 in
theorem vX8_widest_0 {x : ab_Cx} {d mc ms : Nat} {Post : Option ab_V → List ab_Ob → Prop} (hx : ab_At x mX8_widest d mc ms Post) (a1 : Int) (w0 w1 w2 w3 w4 w5 w6 w7 w8 w9 w10 w11 w12 w13 w14 w15 : ab_Ob) (kc ks : Nat)
    (h : (∃ mc1 ms2 : Nat, (kc + mc1 ≤ mc ∧ ks + ms2 ≤ ms) ∧ ∃ r3 : Int, ∃ v4 : ab_Ob, ∃ v5 : ab_Ob, ∃ v6 : ab_Ob, ∃ v7 : ab_Ob, ab_Calls d mc1 ms2 mX8_cutLayer [ab_O 0, ab_O 14, ab_I a1] [w0, w1, w2, w3, w4, w5, w6, w7, w8, w9, w10, w11, w12, w13, w14, w15] (some (ab_I r3)) [v4, w1, w2, w3, w4, v5, w6, v6, w8, w9, w10, w11, w12, w13, w14, v7] ∧ ((r3 = 0 → ab_J x 25 [some (ab_O 0), none, none, some (ab_I 0), some (ab_I 0)] [] [v4, w1, w2, w3, w4, v5, w6, v6, w8, w9, w10, w11, w12, w13, w14, v7] (kc + mc1) (ks + ms2)) ∧ (¬ r3 = 0 → (∃ r8 : Int, ∃ v9 : ab_Ob, ab_Calls d 0 0 mX8_refuse [ab_O 0, ab_I r3] [v4, w1, w2, w3, w4, v5, w6, v6, w8, w9, w10, w11, w12, w13, w14, v7] (some (ab_I r8)) [v9, w1, w2, w3, w4, v5, w6, v6, w8, w9, w10, w11, w12, w13, w14, v7] ∧ Post (some (ab_I r8)) [v9, w1, w2, w3, w4, v5, w6, v6, w8, w9, w10, w11, w12, w13, w14, v7]))))) :
    ab_J x 0 [some (ab_O 0), some (ab_I a1), none, none, none] [] [w0, w1, w2, w3, w4, w5, w6, w7, w8, w9, w10, w11, w12, w13, w14, w15] kc ks := ab_go hx kX8_widest.2 17 [(25, [true, false, false, true, true])] 0 h
set_option maxRecDepth 100000 in
theorem vX8_widest_25 {x : ab_Cx} {d mc ms : Nat} {Post : Option ab_V → List ab_Ob → Prop} (hx : ab_At x mX8_widest d mc ms Post) (l3 l4 : Int) (w0 w1 w2 w3 w4 w5 w6 w7 w8 w9 w10 w11 w12 w13 w14 w15 : ab_Ob) (kc ks : Nat)
    (h : ((-2147483648 ≤ l4 + 1 ∧ l4 + 1 ≤ 2147483647) ∧ (((w14.1 0) ≤ (l4 + 1) → (∃ r1 : Int, ∃ v2 : ab_Ob, ab_Calls d 0 0 mX8_grant [ab_O 0, ab_I l3] [w0, w1, w2, w3, w4, w5, w6, w7, w8, w9, w10, w11, w12, w13, w14, w15] (some (ab_I r1)) [v2, w1, w2, w3, w4, w5, w6, w7, w8, w9, w10, w11, w12, w13, w14, w15] ∧ Post (some (ab_I r1)) [v2, w1, w2, w3, w4, w5, w6, w7, w8, w9, w10, w11, w12, w13, w14, w15])) ∧ (¬ (w14.1 0) ≤ (l4 + 1) → (∃ r3 : Int, ab_Calls d 0 0 mX3_stepFrom [ab_O 0, ab_O 1, ab_I l4] [w14, w3] (some (ab_I r3)) [w14, w3] ∧ ((-2147483648 ≤ -r3 ∧ -r3 ≤ 2147483647) ∧ ((-2147483648 ≤ l4 + 1 ∧ l4 + 1 ≤ 2147483647) ∧ ab_J x 25 [some (ab_O 0), none, none, some (ab_I (if l3 < (if 0 ≤ r3 then r3 else 0 - r3) then (if 0 ≤ r3 then r3 else 0 - r3) else l3)), some (ab_I (l4 + 1))] [] [w0, w1, w2, w3, w4, w5, w6, w7, w8, w9, w10, w11, w12, w13, w14, w15] kc ks))))))) :
    ab_J x 25 [some (ab_O 0), none, none, some (ab_I l3), some (ab_I l4)] [] [w0, w1, w2, w3, w4, w5, w6, w7, w8, w9, w10, w11, w12, w13, w14, w15] kc ks := ab_go hx kX8_widest.2 24 [(25, [true, false, false, true, true])] 25 h
def mX8_echo : ab_M := ((yX8_echo, cX8_echo, 6, (some .int)), ([8, 4, 5, 5, 0, 1, 2, 7, 6, 1, 7, 7, 7, 7, 3, 3], [(0, 0), (0, 1), (0, 2), (0, 3), (0, 4), (0, 5), (0, 6), (0, 7), (0, 8), (0, 9), (0, 10), (0, 11), (0, 12), (0, 13), (0, 14), (0, 15)], [true, false, false, false, false, true, false, true, false, false, false, false, false, false, false, true], true, true, 0), (false, 8, 2))
def rX8_echo : List ab_R := [(0, .aload_n 0, 1, 0, 0, 0, [], none),
  (1, .aload_n 0, 1, 0, 0, 0, [], none),
  (2, .getfield 87, 3, 8, 15, 0, [], none),
  (5, .iload_n 1, 1, 0, 0, 0, [], none),
  (6, .invokevirtual 262, 3, 0, 0, 0, [], some mX8_cutLayer),
  (9, .istore_n 3, 1, 0, 0, 0, [], none),
  (10, .iload_n 3, 1, 0, 0, 0, [], none),
  (11, .ifCond .ne 13, 3, 0, 0, 0, [24], none),
  (14, .aload_n 0, 1, 0, 0, 0, [], none),
  (15, .aload_n 0, 1, 0, 0, 0, [], none),
  (16, .getfield 91, 3, 8, 16, 0, [], none),
  (19, .iload_n 2, 1, 0, 0, 0, [], none),
  (20, .invokevirtual 262, 3, 0, 0, 0, [], some mX8_cutLayer),
  (23, .istore_n 3, 1, 0, 0, 0, [], none),
  (24, .iload_n 3, 1, 0, 0, 0, [], none),
  (25, .ifCond .eq 9, 3, 0, 0, 0, [34], none),
  (28, .aload_n 0, 1, 0, 0, 0, [], none),
  (29, .iload_n 3, 1, 0, 0, 0, [], none),
  (30, .invokevirtual 101, 3, 0, 0, 0, [], some mX8_refuse),
  (33, .ireturn, 1, 0, 0, 0, [], none),
  (34, .iconst 0, 1, 0, 0, 0, [], none),
  (35, .istore 4, 2, 0, 0, 0, [], none),
  (37, .iconst 0, 1, 0, 0, 0, [], none),
  (38, .istore 5, 2, 0, 0, 0, [], none),
  (40, .iload 5, 2, 0, 0, 0, [], none),
  (42, .aload_n 0, 1, 0, 0, 0, [], none),
  (43, .getfield 87, 3, 8, 15, 0, [], none),
  (46, .getfield 266, 3, 3, 0, 0, [], none),
  (49, .iadd, 1, 0, 0, 0, [], none),
  (50, .aload_n 0, 1, 0, 0, 0, [], none),
  (51, .getfield 91, 3, 8, 16, 0, [], none),
  (54, .getfield 266, 3, 3, 0, 0, [], none),
  (57, .if_icmp .gt 32, 3, 0, 0, 0, [89], none),
  (60, .aload_n 0, 1, 0, 0, 0, [], none),
  (61, .getfield 87, 3, 8, 15, 0, [], none),
  (64, .aload_n 0, 1, 0, 0, 0, [], none),
  (65, .getfield 23, 3, 8, 2, 0, [], none),
  (68, .aload_n 0, 1, 0, 0, 0, [], none),
  (69, .getfield 91, 3, 8, 16, 0, [], none),
  (72, .iload 5, 2, 0, 0, 0, [], none),
  (74, .invokevirtual 290, 3, 0, 0, 0, [], some mX3_stepsAsIn),
  (77, .ifCond .eq 6, 3, 0, 0, 0, [83], none),
  (80, .iinc 4 1, 3, 0, 0, 0, [], none),
  (83, .iinc 5 1, 3, 0, 0, 0, [], none),
  (86, .goto (-46), 3, 0, 0, 0, [40], none),
  (89, .aload_n 0, 1, 0, 0, 0, [], none),
  (90, .iload 4, 2, 0, 0, 0, [], none),
  (92, .invokevirtual 124, 3, 0, 0, 0, [], some mX8_grant),
  (95, .ireturn, 1, 0, 0, 0, [], none)]
set_option maxRecDepth 100000 in
theorem kX8_echo : ab_def_ok mX8_echo rX8_echo := ⟨ab_mok_of 928 101 926 927 (by decide +kernel), [0, 0, 406, 0, 879, 0, 0, 0, 0, 0, 407, 0, 879, 0, 0, 0, 0, 0, 455, 0, 0, 0, 0, 0, 0, 0, 406, 375, 0, 0, 407, 375, 0, 0, 406, 0, 393, 0, 407, 0, 929, 0, 0, 0, 0, 0, 0, 620, 0], by decide +kernel⟩
set_option maxRecDepth 100000 in
theorem vX8_echo_0 {x : ab_Cx} {d mc ms : Nat} {Post : Option ab_V → List ab_Ob → Prop} (hx : ab_At x mX8_echo d mc ms Post) (a1 a2 : Int) (w0 w1 w2 w3 w4 w5 w6 w7 w8 w9 w10 w11 w12 w13 w14 w15 : ab_Ob) (kc ks : Nat)
    (h : (∃ mc1 ms2 : Nat, (kc + mc1 ≤ mc ∧ ks + ms2 ≤ ms) ∧ ∃ r3 : Int, ∃ v4 : ab_Ob, ∃ v5 : ab_Ob, ∃ v6 : ab_Ob, ∃ v7 : ab_Ob, ab_Calls d mc1 ms2 mX8_cutLayer [ab_O 0, ab_O 14, ab_I a1] [w0, w1, w2, w3, w4, w5, w6, w7, w8, w9, w10, w11, w12, w13, w14, w15] (some (ab_I r3)) [v4, w1, w2, w3, w4, v5, w6, v6, w8, w9, w10, w11, w12, w13, w14, v7] ∧ ((¬ r3 = 0 → ((r3 = 0 → ab_J x 40 [some (ab_O 0), none, none, none, some (ab_I 0), some (ab_I 0)] [] [v4, w1, w2, w3, w4, v5, w6, v6, w8, w9, w10, w11, w12, w13, w14, v7] (kc + mc1) (ks + ms2)) ∧ (¬ r3 = 0 → (∃ r8 : Int, ∃ v9 : ab_Ob, ab_Calls d 0 0 mX8_refuse [ab_O 0, ab_I r3] [v4, w1, w2, w3, w4, v5, w6, v6, w8, w9, w10, w11, w12, w13, w14, v7] (some (ab_I r8)) [v9, w1, w2, w3, w4, v5, w6, v6, w8, w9, w10, w11, w12, w13, w14, v7] ∧ Post (some (ab_I r8)) [v9, w1, w2, w3, w4, v5, w6, v6, w8, w9, w10, w11, w12, w13, w14, v7])))) ∧ (r3 = 0 → (∃ mc10 ms11 : Nat, ((kc + mc1) + mc10 ≤ mc ∧ (ks + ms2) + ms11 ≤ ms) ∧ ∃ r12 : Int, ∃ v13 : ab_Ob, ∃ v14 : ab_Ob, ∃ v15 : ab_Ob, ∃ v16 : ab_Ob, ab_Calls d mc10 ms11 mX8_cutLayer [ab_O 0, ab_O 15, ab_I a2] [v4, w1, w2, w3, w4, v5, w6, v6, w8, w9, w10, w11, w12, w13, w14, v7] (some (ab_I r12)) [v13, w1, w2, w3, w4, v14, w6, v15, w8, w9, w10, w11, w12, w13, w14, v16] ∧ ((r12 = 0 → ab_J x 40 [some (ab_O 0), none, none, none, some (ab_I 0), some (ab_I 0)] [] [v13, w1, w2, w3, w4, v14, w6, v15, w8, w9, w10, w11, w12, w13, w14, v16] ((kc + mc1) + mc10) ((ks + ms2) + ms11)) ∧ (¬ r12 = 0 → (∃ r17 : Int, ∃ v18 : ab_Ob, ab_Calls d 0 0 mX8_refuse [ab_O 0, ab_I r12] [v13, w1, w2, w3, w4, v14, w6, v15, w8, w9, w10, w11, w12, w13, w14, v16] (some (ab_I r17)) [v18, w1, w2, w3, w4, v14, w6, v15, w8, w9, w10, w11, w12, w13, w14, v16] ∧ Post (some (ab_I r17)) [v18, w1, w2, w3, w4, v14, w6, v15, w8, w9, w10, w11, w12, w13, w14, v16])))))))) :
    ab_J x 0 [some (ab_O 0), some (ab_I a1), some (ab_I a2), none, none, none] [] [w0, w1, w2, w3, w4, w5, w6, w7, w8, w9, w10, w11, w12, w13, w14, w15] kc ks := ab_go hx kX8_echo.2 25 [(40, [true, false, false, false, true, true])] 0 h
set_option maxRecDepth 100000 in
theorem vX8_echo_40 {x : ab_Cx} {d mc ms : Nat} {Post : Option ab_V → List ab_Ob → Prop} (hx : ab_At x mX8_echo d mc ms Post) (l4 l5 : Int) (w0 w1 w2 w3 w4 w5 w6 w7 w8 w9 w10 w11 w12 w13 w14 w15 : ab_Ob) (kc ks : Nat)
    (h : ((-2147483648 ≤ l5 + (w14.1 0) ∧ l5 + (w14.1 0) ≤ 2147483647) ∧ (((w15.1 0) < (l5 + (w14.1 0)) → (∃ r1 : Int, ∃ v2 : ab_Ob, ab_Calls d 0 0 mX8_grant [ab_O 0, ab_I l4] [w0, w1, w2, w3, w4, w5, w6, w7, w8, w9, w10, w11, w12, w13, w14, w15] (some (ab_I r1)) [v2, w1, w2, w3, w4, w5, w6, w7, w8, w9, w10, w11, w12, w13, w14, w15] ∧ Post (some (ab_I r1)) [v2, w1, w2, w3, w4, w5, w6, w7, w8, w9, w10, w11, w12, w13, w14, w15])) ∧ (¬ (w15.1 0) < (l5 + (w14.1 0)) → (∃ r3 : Int, ab_Calls d 0 0 mX3_stepsAsIn [ab_O 0, ab_O 1, ab_O 2, ab_I l5] [w14, w3, w15] (some (ab_I r3)) [w14, w3, w15] ∧ ((r3 = 0 → ((-2147483648 ≤ l5 + 1 ∧ l5 + 1 ≤ 2147483647) ∧ ab_J x 40 [some (ab_O 0), none, none, none, some (ab_I l4), some (ab_I (l5 + 1))] [] [w0, w1, w2, w3, w4, w5, w6, w7, w8, w9, w10, w11, w12, w13, w14, w15] kc ks)) ∧ (¬ r3 = 0 → ((-2147483648 ≤ l4 + 1 ∧ l4 + 1 ≤ 2147483647) ∧ ((-2147483648 ≤ l5 + 1 ∧ l5 + 1 ≤ 2147483647) ∧ ab_J x 40 [some (ab_O 0), none, none, none, some (ab_I (l4 + 1)), some (ab_I (l5 + 1))] [] [w0, w1, w2, w3, w4, w5, w6, w7, w8, w9, w10, w11, w12, w13, w14, w15] kc ks))))))))) :
    ab_J x 40 [some (ab_O 0), none, none, none, some (ab_I l4), some (ab_I l5)] [] [w0, w1, w2, w3, w4, w5, w6, w7, w8, w9, w10, w11, w12, w13, w14, w15] kc ks := ab_go hx kX8_echo.2 26 [(40, [true, false, false, false, true, true])] 40 h
def mX8_over : ab_M := ((yX8_over, cX8_over, 3, (some .int)), ([8, 4, 5, 5, 0, 1, 2, 7, 6, 1, 7, 7, 7, 7, 3, 3], [(0, 0), (0, 1), (0, 2), (0, 3), (0, 4), (0, 5), (0, 6), (0, 7), (0, 8), (0, 9), (0, 10), (0, 11), (0, 12), (0, 13), (0, 14), (0, 15)], [true, false, false, false, false, true, false, true, false, false, false, false, false, false, false, false], true, true, 0), (false, 8, 2))
def rX8_over : List ab_R := [(0, .aload_n 0, 1, 0, 0, 0, [], none),
  (1, .iload_n 1, 1, 0, 0, 0, [], none),
  (2, .invokevirtual 151, 3, 0, 0, 0, [], some mX8_hasNote),
  (5, .ifCond .eq 11, 3, 0, 0, 0, [16], none),
  (8, .aload_n 0, 1, 0, 0, 0, [], none),
  (9, .iload_n 2, 1, 0, 0, 0, [], none),
  (10, .invokevirtual 151, 3, 0, 0, 0, [], some mX8_hasNote),
  (13, .ifCond .ne 9, 3, 0, 0, 0, [22], none),
  (16, .aload_n 0, 1, 0, 0, 0, [], none),
  (17, .iconst 1, 1, 0, 0, 0, [], none),
  (18, .invokevirtual 101, 3, 0, 0, 0, [], some mX8_refuse),
  (21, .ireturn, 1, 0, 0, 0, [], none),
  (22, .aload_n 0, 1, 0, 0, 0, [], none),
  (23, .aload_n 0, 1, 0, 0, 0, [], none),
  (24, .invokevirtual 171, 3, 0, 0, 0, [], some mX8_freshTree),
  (27, .iload_n 1, 1, 0, 0, 0, [], none),
  (28, .iload_n 2, 1, 0, 0, 0, [], none),
  (29, .invokevirtual 294, 3, 0, 0, 0, [], some mX7_headOverBoth),
  (32, .invokevirtual 124, 3, 0, 0, 0, [], some mX8_grant),
  (35, .ireturn, 1, 0, 0, 0, [], none)]
set_option maxRecDepth 100000 in
theorem kX8_over : ab_def_ok mX8_over rX8_over := ⟨ab_mok_of 937 101 935 936 (by decide +kernel), [0, 0, 652, 0, 0, 0, 652, 0, 0, 0, 455, 0, 0, 0, 656, 0, 0, 938, 620, 0], by decide +kernel⟩
set_option maxRecDepth 100000 in
theorem vX8_over_0 {x : ab_Cx} {d mc ms : Nat} {Post : Option ab_V → List ab_Ob → Prop} (hx : ab_At x mX8_over d mc ms Post) (a1 a2 : Int) (w0 w1 w2 w3 w4 w5 w6 w7 w8 w9 w10 w11 w12 w13 w14 w15 : ab_Ob) (kc ks : Nat)
    (h : (∃ r1 : Int, ab_Calls d 0 0 mX8_hasNote [ab_O 0, ab_I a1] [w0, w1, w2, w3, w4, w5, w6, w7, w8, w9, w10, w11, w12, w13, w14, w15] (some (ab_I r1)) [w0, w1, w2, w3, w4, w5, w6, w7, w8, w9, w10, w11, w12, w13, w14, w15] ∧ ((r1 = 0 → (∃ r2 : Int, ∃ v3 : ab_Ob, ab_Calls d 0 0 mX8_refuse [ab_O 0, ab_I 1] [w0, w1, w2, w3, w4, w5, w6, w7, w8, w9, w10, w11, w12, w13, w14, w15] (some (ab_I r2)) [v3, w1, w2, w3, w4, w5, w6, w7, w8, w9, w10, w11, w12, w13, w14, w15] ∧ Post (some (ab_I r2)) [v3, w1, w2, w3, w4, w5, w6, w7, w8, w9, w10, w11, w12, w13, w14, w15])) ∧ (¬ r1 = 0 → (∃ r4 : Int, ab_Calls d 0 0 mX8_hasNote [ab_O 0, ab_I a2] [w0, w1, w2, w3, w4, w5, w6, w7, w8, w9, w10, w11, w12, w13, w14, w15] (some (ab_I r4)) [w0, w1, w2, w3, w4, w5, w6, w7, w8, w9, w10, w11, w12, w13, w14, w15] ∧ ((¬ r4 = 0 → (∃ mc5 ms6 : Nat, (kc + mc5 ≤ mc ∧ ks + ms6 ≤ ms) ∧ ∃ v7 : ab_Ob, ∃ v8 : ab_Ob, ∃ v9 : ab_Ob, ab_Calls d mc5 ms6 mX8_freshTree [ab_O 0] [w0, w1, w2, w3, w4, w5, w6, w7, w8, w9, w10, w11, w12, w13, w14, w15] (some (ab_O 7)) [v7, w1, w2, w3, w4, v8, w6, v9, w8, w9, w10, w11, w12, w13, w14, w15] ∧ (∃ r10 : Int, ab_Calls d 0 0 mX7_headOverBoth [ab_O 0, ab_I a1, ab_I a2] [v9] (some (ab_I r10)) [v9] ∧ (∃ r11 : Int, ∃ v12 : ab_Ob, ab_Calls d 0 0 mX8_grant [ab_O 0, ab_I r10] [v7, w1, w2, w3, w4, v8, w6, v9, w8, w9, w10, w11, w12, w13, w14, w15] (some (ab_I r11)) [v12, w1, w2, w3, w4, v8, w6, v9, w8, w9, w10, w11, w12, w13, w14, w15] ∧ Post (some (ab_I r11)) [v12, w1, w2, w3, w4, v8, w6, v9, w8, w9, w10, w11, w12, w13, w14, w15])))) ∧ (r4 = 0 → (∃ r13 : Int, ∃ v14 : ab_Ob, ab_Calls d 0 0 mX8_refuse [ab_O 0, ab_I 1] [w0, w1, w2, w3, w4, w5, w6, w7, w8, w9, w10, w11, w12, w13, w14, w15] (some (ab_I r13)) [v14, w1, w2, w3, w4, w5, w6, w7, w8, w9, w10, w11, w12, w13, w14, w15] ∧ Post (some (ab_I r13)) [v14, w1, w2, w3, w4, w5, w6, w7, w8, w9, w10, w11, w12, w13, w14, w15])))))))) :
    ab_J x 0 [some (ab_O 0), some (ab_I a1), some (ab_I a2)] [] [w0, w1, w2, w3, w4, w5, w6, w7, w8, w9, w10, w11, w12, w13, w14, w15] kc ks := ab_go hx kX8_over.2 20 [] 0 h
def mX8_under : ab_M := ((yX8_under, cX8_under, 2, (some .int)), ([8, 4, 5, 5, 0, 1, 2, 7, 6, 1, 7, 7, 7, 7, 3, 3], [(0, 0), (0, 1), (0, 2), (0, 3), (0, 4), (0, 5), (0, 6), (0, 7), (0, 8), (0, 9), (0, 10), (0, 11), (0, 12), (0, 13), (0, 14), (0, 15)], [true, false, false, false, false, true, false, true, false, false, false, false, false, false, false, false], true, true, 0), (false, 8, 1))
def rX8_under : List ab_R := [(0, .aload_n 0, 1, 0, 0, 0, [], none),
  (1, .iload_n 1, 1, 0, 0, 0, [], none),
  (2, .invokevirtual 151, 3, 0, 0, 0, [], some mX8_hasNote),
  (5, .ifCond .eq 18, 3, 0, 0, 0, [23], none),
  (8, .aload_n 0, 1, 0, 0, 0, [], none),
  (9, .aload_n 0, 1, 0, 0, 0, [], none),
  (10, .invokevirtual 171, 3, 0, 0, 0, [], some mX8_freshTree),
  (13, .iload_n 1, 1, 0, 0, 0, [], none),
  (14, .invokevirtual 297, 3, 0, 0, 0, [], some mX7_notesUnder),
  (17, .invokevirtual 124, 3, 0, 0, 0, [], some mX8_grant),
  (20, .goto 8, 3, 0, 0, 0, [28], none),
  (23, .aload_n 0, 1, 0, 0, 0, [], none),
  (24, .iconst 1, 1, 0, 0, 0, [], none),
  (25, .invokevirtual 101, 3, 0, 0, 0, [], some mX8_refuse),
  (28, .ireturn, 1, 0, 0, 0, [], none)]
set_option maxRecDepth 100000 in
theorem kX8_under : ab_def_ok mX8_under rX8_under := ⟨ab_mok_of 946 101 944 945 (by decide +kernel), [0, 0, 652, 0, 0, 0, 656, 0, 947, 620, 0, 0, 0, 455, 0], by decide +kernel⟩
set_option maxRecDepth 100000 in
theorem vX8_under_0 {x : ab_Cx} {d mc ms : Nat} {Post : Option ab_V → List ab_Ob → Prop} (hx : ab_At x mX8_under d mc ms Post) (a1 : Int) (w0 w1 w2 w3 w4 w5 w6 w7 w8 w9 w10 w11 w12 w13 w14 w15 : ab_Ob) (kc ks : Nat)
    (h : (∃ r1 : Int, ab_Calls d 0 0 mX8_hasNote [ab_O 0, ab_I a1] [w0, w1, w2, w3, w4, w5, w6, w7, w8, w9, w10, w11, w12, w13, w14, w15] (some (ab_I r1)) [w0, w1, w2, w3, w4, w5, w6, w7, w8, w9, w10, w11, w12, w13, w14, w15] ∧ ((r1 = 0 → (∃ r2 : Int, ∃ v3 : ab_Ob, ab_Calls d 0 0 mX8_refuse [ab_O 0, ab_I 1] [w0, w1, w2, w3, w4, w5, w6, w7, w8, w9, w10, w11, w12, w13, w14, w15] (some (ab_I r2)) [v3, w1, w2, w3, w4, w5, w6, w7, w8, w9, w10, w11, w12, w13, w14, w15] ∧ Post (some (ab_I r2)) [v3, w1, w2, w3, w4, w5, w6, w7, w8, w9, w10, w11, w12, w13, w14, w15])) ∧ (¬ r1 = 0 → (∃ mc4 ms5 : Nat, (kc + mc4 ≤ mc ∧ ks + ms5 ≤ ms) ∧ ∃ v6 : ab_Ob, ∃ v7 : ab_Ob, ∃ v8 : ab_Ob, ab_Calls d mc4 ms5 mX8_freshTree [ab_O 0] [w0, w1, w2, w3, w4, w5, w6, w7, w8, w9, w10, w11, w12, w13, w14, w15] (some (ab_O 7)) [v6, w1, w2, w3, w4, v7, w6, v8, w8, w9, w10, w11, w12, w13, w14, w15] ∧ (∃ r9 : Int, ab_Calls d 0 0 mX7_notesUnder [ab_O 0, ab_I a1] [v8] (some (ab_I r9)) [v8] ∧ (∃ r10 : Int, ∃ v11 : ab_Ob, ab_Calls d 0 0 mX8_grant [ab_O 0, ab_I r9] [v6, w1, w2, w3, w4, v7, w6, v8, w8, w9, w10, w11, w12, w13, w14, w15] (some (ab_I r10)) [v11, w1, w2, w3, w4, v7, w6, v8, w8, w9, w10, w11, w12, w13, w14, w15] ∧ Post (some (ab_I r10)) [v11, w1, w2, w3, w4, v7, w6, v8, w8, w9, w10, w11, w12, w13, w14, w15]))))))) :
    ab_J x 0 [some (ab_O 0), some (ab_I a1)] [] [w0, w1, w2, w3, w4, w5, w6, w7, w8, w9, w10, w11, w12, w13, w14, w15] kc ks := ab_go hx kX8_under.2 16 [] 0 h
def mX8_firm : ab_M := ((yX8_firm, cX8_firm, 3, (some .int)), ([8, 4, 5, 5, 0, 1, 2, 7, 6, 1, 7, 7, 7, 7, 3, 3], [(0, 0), (0, 1), (0, 2), (0, 3), (0, 4), (0, 5), (0, 6), (0, 7), (0, 8), (0, 9), (0, 10), (0, 11), (0, 12), (0, 13), (0, 14), (0, 15)], [true, false, false, true, false, false, false, false, true, true, true, false, false, false, false, false], true, true, 0), (false, 8, 2))
def rX8_firm : List ab_R := [(0, .aload_n 0, 1, 0, 0, 0, [], none),
  (1, .iload_n 1, 1, 0, 0, 0, [], none),
  (2, .invokevirtual 178, 3, 0, 0, 0, [], some mX8_hasRule),
  (5, .ifCond .ne 9, 3, 0, 0, 0, [14], none),
  (8, .aload_n 0, 1, 0, 0, 0, [], none),
  (9, .iconst 1, 1, 0, 0, 0, [], none),
  (10, .invokevirtual 101, 3, 0, 0, 0, [], some mX8_refuse),
  (13, .ireturn, 1, 0, 0, 0, [], none),
  (14, .aload_n 0, 1, 0, 0, 0, [], none),
  (15, .iload_n 2, 1, 0, 0, 0, [], none),
  (16, .ifCond .eq 18, 3, 0, 0, 0, [34], none),
  (19, .aload_n 0, 1, 0, 0, 0, [], none),
  (20, .getfield 68, 3, 8, 10, 0, [], none),
  (23, .aload_n 0, 1, 0, 0, 0, [], none),
  (24, .getfield 23, 3, 8, 2, 0, [], none),
  (27, .iload_n 1, 1, 0, 0, 0, [], none),
  (28, .invokevirtual 300, 3, 0, 0, 0, [], some mX6_firmUpTo),
  (31, .goto 15, 3, 0, 0, 0, [46], none),
  (34, .aload_n 0, 1, 0, 0, 0, [], none),
  (35, .getfield 68, 3, 8, 10, 0, [], none),
  (38, .aload_n 0, 1, 0, 0, 0, [], none),
  (39, .getfield 23, 3, 8, 2, 0, [], none),
  (42, .iload_n 1, 1, 0, 0, 0, [], none),
  (43, .invokevirtual 303, 3, 0, 0, 0, [], some mX6_firmDownTo),
  (46, .invokevirtual 124, 3, 0, 0, 0, [], some mX8_grant),
  (49, .ireturn, 1, 0, 0, 0, [], none)]
set_option maxRecDepth 100000 in
theorem kX8_firm : ab_def_ok mX8_firm rX8_firm := ⟨ab_mok_of 956 101 954 955 (by decide +kernel), [0, 0, 743, 0, 0, 0, 455, 0, 0, 0, 0, 0, 401, 0, 393, 0, 957, 0, 0, 401, 0, 393, 0, 974, 620, 0], by decide +kernel⟩
set_option maxRecDepth 100000 in
theorem vX8_firm_0 {x : ab_Cx} {d mc ms : Nat} {Post : Option ab_V → List ab_Ob → Prop} (hx : ab_At x mX8_firm d mc ms Post) (a1 a2 : Int) (w0 w1 w2 w3 w4 w5 w6 w7 w8 w9 w10 w11 w12 w13 w14 w15 : ab_Ob) (kc ks : Nat)
    (h : (∃ r1 : Int, ab_Calls d 0 0 mX8_hasRule [ab_O 0, ab_I a1] [w0, w1, w2, w3, w4, w5, w6, w7, w8, w9, w10, w11, w12, w13, w14, w15] (some (ab_I r1)) [w0, w1, w2, w3, w4, w5, w6, w7, w8, w9, w10, w11, w12, w13, w14, w15] ∧ ((¬ r1 = 0 → ((a2 = 0 → (∃ mc2 ms3 : Nat, (kc + mc2 ≤ mc ∧ ks + ms3 ≤ ms) ∧ ∃ r4 : Int, ∃ v5 : ab_Ob, ∃ v6 : ab_Ob, ∃ v7 : ab_Ob, ∃ v8 : ab_Ob, ab_Calls d mc2 ms3 mX6_firmDownTo [ab_O 0, ab_O 3, ab_I a1] [w8, w9, w10, w3] (some (ab_I r4)) [v5, v6, v7, v8] ∧ (∃ r9 : Int, ∃ v10 : ab_Ob, ab_Calls d 0 0 mX8_grant [ab_O 0, ab_I r4] [w0, w1, w2, v8, w4, w5, w6, w7, v5, v6, v7, w11, w12, w13, w14, w15] (some (ab_I r9)) [v10, w1, w2, v8, w4, w5, w6, w7, v5, v6, v7, w11, w12, w13, w14, w15] ∧ Post (some (ab_I r9)) [v10, w1, w2, v8, w4, w5, w6, w7, v5, v6, v7, w11, w12, w13, w14, w15]))) ∧ (¬ a2 = 0 → (∃ mc11 ms12 : Nat, (kc + mc11 ≤ mc ∧ ks + ms12 ≤ ms) ∧ ∃ r13 : Int, ∃ v14 : ab_Ob, ∃ v15 : ab_Ob, ∃ v16 : ab_Ob, ∃ v17 : ab_Ob, ab_Calls d mc11 ms12 mX6_firmUpTo [ab_O 0, ab_O 3, ab_I a1] [w8, w9, w10, w3] (some (ab_I r13)) [v14, v15, v16, v17] ∧ (∃ r18 : Int, ∃ v19 : ab_Ob, ab_Calls d 0 0 mX8_grant [ab_O 0, ab_I r13] [w0, w1, w2, v17, w4, w5, w6, w7, v14, v15, v16, w11, w12, w13, w14, w15] (some (ab_I r18)) [v19, w1, w2, v17, w4, w5, w6, w7, v14, v15, v16, w11, w12, w13, w14, w15] ∧ Post (some (ab_I r18)) [v19, w1, w2, v17, w4, w5, w6, w7, v14, v15, v16, w11, w12, w13, w14, w15]))))) ∧ (r1 = 0 → (∃ r20 : Int, ∃ v21 : ab_Ob, ab_Calls d 0 0 mX8_refuse [ab_O 0, ab_I 1] [w0, w1, w2, w3, w4, w5, w6, w7, w8, w9, w10, w11, w12, w13, w14, w15] (some (ab_I r20)) [v21, w1, w2, w3, w4, w5, w6, w7, w8, w9, w10, w11, w12, w13, w14, w15] ∧ Post (some (ab_I r20)) [v21, w1, w2, w3, w4, w5, w6, w7, w8, w9, w10, w11, w12, w13, w14, w15]))))) :
    ab_J x 0 [some (ab_O 0), some (ab_I a1), some (ab_I a2)] [] [w0, w1, w2, w3, w4, w5, w6, w7, w8, w9, w10, w11, w12, w13, w14, w15] kc ks := ab_go hx kX8_firm.2 20 [] 0 h
def mX8_sways : ab_M := ((yX8_sways, cX8_sways, 3, (some .int)), ([8, 4, 5, 5, 0, 1, 2, 7, 6, 1, 7, 7, 7, 7, 3, 3], [(0, 0), (0, 1), (0, 2), (0, 3), (0, 4), (0, 5), (0, 6), (0, 7), (0, 8), (0, 9), (0, 10), (0, 11), (0, 12), (0, 13), (0, 14), (0, 15)], [true, false, false, true, false, false, false, false, true, true, true, false, false, false, false, false], true, true, 0), (false, 8, 2))
def rX8_sways : List ab_R := [(0, .aload_n 0, 1, 0, 0, 0, [], none),
  (1, .iload_n 1, 1, 0, 0, 0, [], none),
  (2, .invokevirtual 178, 3, 0, 0, 0, [], some mX8_hasRule),
  (5, .ifCond .eq 11, 3, 0, 0, 0, [16], none),
  (8, .aload_n 0, 1, 0, 0, 0, [], none),
  (9, .iload_n 2, 1, 0, 0, 0, [], none),
  (10, .invokevirtual 151, 3, 0, 0, 0, [], some mX8_hasNote),
  (13, .ifCond .ne 9, 3, 0, 0, 0, [22], none),
  (16, .aload_n 0, 1, 0, 0, 0, [], none),
  (17, .iconst 1, 1, 0, 0, 0, [], none),
  (18, .invokevirtual 101, 3, 0, 0, 0, [], some mX8_refuse),
  (21, .ireturn, 1, 0, 0, 0, [], none),
  (22, .aload_n 0, 1, 0, 0, 0, [], none),
  (23, .getfield 68, 3, 8, 10, 0, [], none),
  (26, .aload_n 0, 1, 0, 0, 0, [], none),
  (27, .getfield 23, 3, 8, 2, 0, [], none),
  (30, .iload_n 1, 1, 0, 0, 0, [], none),
  (31, .invokevirtual 306, 3, 0, 0, 0, [], some mX6_learnAll),
  (34, .aload_n 0, 1, 0, 0, 0, [], none),
  (35, .aload_n 0, 1, 0, 0, 0, [], none),
  (36, .getfield 68, 3, 8, 10, 0, [], none),
  (39, .iload_n 1, 1, 0, 0, 0, [], none),
  (40, .iload_n 2, 1, 0, 0, 0, [], none),
  (41, .invokevirtual 310, 3, 0, 0, 0, [], some mX6_leastWeightFor),
  (44, .invokevirtual 124, 3, 0, 0, 0, [], some mX8_grant),
  (47, .ireturn, 1, 0, 0, 0, [], none)]
set_option maxRecDepth 100000 in
theorem kX8_sways : ab_def_ok mX8_sways rX8_sways := ⟨ab_mok_of 981 101 979 980 (by decide +kernel), [0, 0, 743, 0, 0, 0, 652, 0, 0, 0, 455, 0, 0, 401, 0, 393, 0, 982, 0, 0, 401, 0, 0, 990, 620, 0], by decide +kernel⟩
set_option maxRecDepth 100000 in
theorem vX8_sways_0 {x : ab_Cx} {d mc ms : Nat} {Post : Option ab_V → List ab_Ob → Prop} (hx : ab_At x mX8_sways d mc ms Post) (a1 a2 : Int) (w0 w1 w2 w3 w4 w5 w6 w7 w8 w9 w10 w11 w12 w13 w14 w15 : ab_Ob) (kc ks : Nat)
    (h : (∃ r1 : Int, ab_Calls d 0 0 mX8_hasRule [ab_O 0, ab_I a1] [w0, w1, w2, w3, w4, w5, w6, w7, w8, w9, w10, w11, w12, w13, w14, w15] (some (ab_I r1)) [w0, w1, w2, w3, w4, w5, w6, w7, w8, w9, w10, w11, w12, w13, w14, w15] ∧ ((r1 = 0 → (∃ r2 : Int, ∃ v3 : ab_Ob, ab_Calls d 0 0 mX8_refuse [ab_O 0, ab_I 1] [w0, w1, w2, w3, w4, w5, w6, w7, w8, w9, w10, w11, w12, w13, w14, w15] (some (ab_I r2)) [v3, w1, w2, w3, w4, w5, w6, w7, w8, w9, w10, w11, w12, w13, w14, w15] ∧ Post (some (ab_I r2)) [v3, w1, w2, w3, w4, w5, w6, w7, w8, w9, w10, w11, w12, w13, w14, w15])) ∧ (¬ r1 = 0 → (∃ r4 : Int, ab_Calls d 0 0 mX8_hasNote [ab_O 0, ab_I a2] [w0, w1, w2, w3, w4, w5, w6, w7, w8, w9, w10, w11, w12, w13, w14, w15] (some (ab_I r4)) [w0, w1, w2, w3, w4, w5, w6, w7, w8, w9, w10, w11, w12, w13, w14, w15] ∧ ((¬ r4 = 0 → (∃ mc5 ms6 : Nat, (kc + mc5 ≤ mc ∧ ks + ms6 ≤ ms) ∧ ∃ v7 : ab_Ob, ∃ v8 : ab_Ob, ∃ v9 : ab_Ob, ∃ v10 : ab_Ob, ab_Calls d mc5 ms6 mX6_learnAll [ab_O 0, ab_O 3, ab_I a1] [w8, w9, w10, w3] none [v7, v8, v9, v10] ∧ (∃ r11 : Int, ab_Calls d 0 0 mX6_leastWeightFor [ab_O 0, ab_I a1, ab_I a2] [v7, v8, v9] (some (ab_I r11)) [v7, v8, v9] ∧ (∃ r12 : Int, ∃ v13 : ab_Ob, ab_Calls d 0 0 mX8_grant [ab_O 0, ab_I r11] [w0, w1, w2, v10, w4, w5, w6, w7, v7, v8, v9, w11, w12, w13, w14, w15] (some (ab_I r12)) [v13, w1, w2, v10, w4, w5, w6, w7, v7, v8, v9, w11, w12, w13, w14, w15] ∧ Post (some (ab_I r12)) [v13, w1, w2, v10, w4, w5, w6, w7, v7, v8, v9, w11, w12, w13, w14, w15])))) ∧ (r4 = 0 → (∃ r14 : Int, ∃ v15 : ab_Ob, ab_Calls d 0 0 mX8_refuse [ab_O 0, ab_I 1] [w0, w1, w2, w3, w4, w5, w6, w7, w8, w9, w10, w11, w12, w13, w14, w15] (some (ab_I r14)) [v15, w1, w2, w3, w4, w5, w6, w7, w8, w9, w10, w11, w12, w13, w14, w15] ∧ Post (some (ab_I r14)) [v15, w1, w2, w3, w4, w5, w6, w7, w8, w9, w10, w11, w12, w13, w14, w15])))))))) :
    ab_J x 0 [some (ab_O 0), some (ab_I a1), some (ab_I a2)] [] [w0, w1, w2, w3, w4, w5, w6, w7, w8, w9, w10, w11, w12, w13, w14, w15] kc ks := ab_go hx kX8_sways.2 26 [] 0 h
def mX8_swayed : ab_M := ((yX8_swayed, cX8_swayed, 3, (some .int)), ([8, 4, 5, 5, 0, 1, 2, 7, 6, 1, 7, 7, 7, 7, 3, 3], [(0, 0), (0, 1), (0, 2), (0, 3), (0, 4), (0, 5), (0, 6), (0, 7), (0, 8), (0, 9), (0, 10), (0, 11), (0, 12), (0, 13), (0, 14), (0, 15)], [true, false, false, true, false, false, false, false, true, true, true, false, false, false, false, false], true, true, 0), (false, 8, 2))
def rX8_swayed : List ab_R := [(0, .aload_n 0, 1, 0, 0, 0, [], none),
  (1, .iload_n 1, 1, 0, 0, 0, [], none),
  (2, .invokevirtual 178, 3, 0, 0, 0, [], some mX8_hasRule),
  (5, .ifCond .ne 9, 3, 0, 0, 0, [14], none),
  (8, .aload_n 0, 1, 0, 0, 0, [], none),
  (9, .iconst 1, 1, 0, 0, 0, [], none),
  (10, .invokevirtual 101, 3, 0, 0, 0, [], some mX8_refuse),
  (13, .ireturn, 1, 0, 0, 0, [], none),
  (14, .iload_n 2, 1, 0, 0, 0, [], none),
  (15, .ifCond .lt 9, 3, 0, 0, 0, [24], none),
  (18, .iload_n 2, 1, 0, 0, 0, [], none),
  (19, .bipush 99, 2, 0, 0, 0, [], none),
  (21, .if_icmp .le 9, 3, 0, 0, 0, [30], none),
  (24, .aload_n 0, 1, 0, 0, 0, [], none),
  (25, .iconst 2, 1, 0, 0, 0, [], none),
  (26, .invokevirtual 101, 3, 0, 0, 0, [], some mX8_refuse),
  (29, .ireturn, 1, 0, 0, 0, [], none),
  (30, .aload_n 0, 1, 0, 0, 0, [], none),
  (31, .aload_n 0, 1, 0, 0, 0, [], none),
  (32, .getfield 68, 3, 8, 10, 0, [], none),
  (35, .aload_n 0, 1, 0, 0, 0, [], none),
  (36, .getfield 23, 3, 8, 2, 0, [], none),
  (39, .iload_n 1, 1, 0, 0, 0, [], none),
  (40, .iload_n 2, 1, 0, 0, 0, [], none),
  (41, .invokevirtual 313, 3, 0, 0, 0, [], some mX6_breaksWith),
  (44, .invokevirtual 124, 3, 0, 0, 0, [], some mX8_grant),
  (47, .ireturn, 1, 0, 0, 0, [], none)]
set_option maxRecDepth 100000 in
theorem kX8_swayed : ab_def_ok mX8_swayed rX8_swayed := ⟨ab_mok_of 997 101 995 996 (by decide +kernel), [0, 0, 743, 0, 0, 0, 455, 0, 0, 0, 0, 0, 0, 0, 0, 455, 0, 0, 0, 401, 0, 393, 0, 0, 998, 620, 0], by decide +kernel⟩
set_option maxRecDepth 100000 in
theorem vX8_swayed_0 {x : ab_Cx} {d mc ms : Nat} {Post : Option ab_V → List ab_Ob → Prop} (hx : ab_At x mX8_swayed d mc ms Post) (a1 a2 : Int) (w0 w1 w2 w3 w4 w5 w6 w7 w8 w9 w10 w11 w12 w13 w14 w15 : ab_Ob) (kc ks : Nat)
    (h : (∃ r1 : Int, ab_Calls d 0 0 mX8_hasRule [ab_O 0, ab_I a1] [w0, w1, w2, w3, w4, w5, w6, w7, w8, w9, w10, w11, w12, w13, w14, w15] (some (ab_I r1)) [w0, w1, w2, w3, w4, w5, w6, w7, w8, w9, w10, w11, w12, w13, w14, w15] ∧ ((¬ r1 = 0 → ((a2 < 0 → (∃ r2 : Int, ∃ v3 : ab_Ob, ab_Calls d 0 0 mX8_refuse [ab_O 0, ab_I 2] [w0, w1, w2, w3, w4, w5, w6, w7, w8, w9, w10, w11, w12, w13, w14, w15] (some (ab_I r2)) [v3, w1, w2, w3, w4, w5, w6, w7, w8, w9, w10, w11, w12, w13, w14, w15] ∧ Post (some (ab_I r2)) [v3, w1, w2, w3, w4, w5, w6, w7, w8, w9, w10, w11, w12, w13, w14, w15])) ∧ (¬ a2 < 0 → ((a2 ≤ 99 → (∃ mc4 ms5 : Nat, (kc + mc4 ≤ mc ∧ ks + ms5 ≤ ms) ∧ ∃ r6 : Int, ∃ v7 : ab_Ob, ∃ v8 : ab_Ob, ∃ v9 : ab_Ob, ∃ v10 : ab_Ob, ab_Calls d mc4 ms5 mX6_breaksWith [ab_O 0, ab_O 3, ab_I a1, ab_I a2] [w8, w9, w10, w3] (some (ab_I r6)) [v7, v8, v9, v10] ∧ (∃ r11 : Int, ∃ v12 : ab_Ob, ab_Calls d 0 0 mX8_grant [ab_O 0, ab_I r6] [w0, w1, w2, v10, w4, w5, w6, w7, v7, v8, v9, w11, w12, w13, w14, w15] (some (ab_I r11)) [v12, w1, w2, v10, w4, w5, w6, w7, v7, v8, v9, w11, w12, w13, w14, w15] ∧ Post (some (ab_I r11)) [v12, w1, w2, v10, w4, w5, w6, w7, v7, v8, v9, w11, w12, w13, w14, w15]))) ∧ (¬ a2 ≤ 99 → (∃ r13 : Int, ∃ v14 : ab_Ob, ab_Calls d 0 0 mX8_refuse [ab_O 0, ab_I 2] [w0, w1, w2, w3, w4, w5, w6, w7, w8, w9, w10, w11, w12, w13, w14, w15] (some (ab_I r13)) [v14, w1, w2, w3, w4, w5, w6, w7, w8, w9, w10, w11, w12, w13, w14, w15] ∧ Post (some (ab_I r13)) [v14, w1, w2, w3, w4, w5, w6, w7, w8, w9, w10, w11, w12, w13, w14, w15])))))) ∧ (r1 = 0 → (∃ r15 : Int, ∃ v16 : ab_Ob, ab_Calls d 0 0 mX8_refuse [ab_O 0, ab_I 1] [w0, w1, w2, w3, w4, w5, w6, w7, w8, w9, w10, w11, w12, w13, w14, w15] (some (ab_I r15)) [v16, w1, w2, w3, w4, w5, w6, w7, w8, w9, w10, w11, w12, w13, w14, w15] ∧ Post (some (ab_I r15)) [v16, w1, w2, w3, w4, w5, w6, w7, w8, w9, w10, w11, w12, w13, w14, w15]))))) :
    ab_J x 0 [some (ab_O 0), some (ab_I a1), some (ab_I a2)] [] [w0, w1, w2, w3, w4, w5, w6, w7, w8, w9, w10, w11, w12, w13, w14, w15] kc ks := ab_go hx kX8_swayed.2 23 [] 0 h
def mX8_hasNotesFrom : ab_M := ((yX8_hasNotesFrom, cX8_hasNotesFrom, 3, (some .boolean)), ([8, 4, 5, 5, 0, 1, 2, 7, 6, 1, 7, 7, 7, 7, 3, 3], [(0, 0), (0, 1), (0, 2), (0, 3), (0, 4), (0, 5), (0, 6), (0, 7), (0, 8), (0, 9), (0, 10), (0, 11), (0, 12), (0, 13), (0, 14), (0, 15)], [false, false, false, false, false, false, false, false, false, false, false, false, false, false, false, false], false, false, 0), (false, 8, 2))
def rX8_hasNotesFrom : List ab_R := [(0, .iload_n 2, 1, 0, 0, 0, [], none),
  (1, .iconst 1, 1, 0, 0, 0, [], none),
  (2, .if_icmp .lt 35, 3, 0, 0, 0, [37], none),
  (5, .iload_n 2, 1, 0, 0, 0, [], none),
  (6, .aload_n 0, 1, 0, 0, 0, [], none),
  (7, .getfield 23, 3, 8, 2, 0, [], none),
  (10, .getfield 121, 3, 5, 3, 0, [], none),
  (13, .if_icmp .gt 24, 3, 0, 0, 0, [37], none),
  (16, .iload_n 1, 1, 0, 0, 0, [], none),
  (17, .ifCond .lt 20, 3, 0, 0, 0, [37], none),
  (20, .iload_n 1, 1, 0, 0, 0, [], none),
  (21, .aload_n 0, 1, 0, 0, 0, [], none),
  (22, .getfield 23, 3, 8, 2, 0, [], none),
  (25, .getfield 121, 3, 5, 3, 0, [], none),
  (28, .iload_n 2, 1, 0, 0, 0, [], none),
  (29, .isub, 1, 0, 0, 0, [], none),
  (30, .if_icmp .gt 7, 3, 0, 0, 0, [37], none),
  (33, .iconst 1, 1, 0, 0, 0, [], none),
  (34, .goto 4, 3, 0, 0, 0, [38], none),
  (37, .iconst 0, 1, 0, 0, 0, [], none),
  (38, .ireturn, 1, 0, 0, 0, [], none)]
set_option maxRecDepth 100000 in
theorem kX8_hasNotesFrom : ab_def_ok mX8_hasNotesFrom rX8_hasNotesFrom := ⟨ab_mok_of 1009 101 1008 39 (by decide +kernel), [0, 0, 0, 0, 0, 393, 150, 0, 0, 0, 0, 0, 393, 150, 0, 0, 0, 0, 0, 0, 0], by decide +kernel⟩
set_option maxRecDepth 100000 in
theorem vX8_hasNotesFrom_0 {x : ab_Cx} {d mc ms : Nat} {Post : Option ab_V → List ab_Ob → Prop} (hx : ab_At x mX8_hasNotesFrom d mc ms Post) (a1 a2 : Int) (w0 w1 w2 w3 w4 w5 w6 w7 w8 w9 w10 w11 w12 w13 w14 w15 : ab_Ob) (kc ks : Nat)
    (h : ((a2 < 1 → (((0 : Int) = 0 ∨ (0 : Int) = 1) ∧ Post (some (ab_I 0)) [w0, w1, w2, w3, w4, w5, w6, w7, w8, w9, w10, w11, w12, w13, w14, w15])) ∧ (¬ a2 < 1 → (((w3.1 3) < a2 → (((0 : Int) = 0 ∨ (0 : Int) = 1) ∧ Post (some (ab_I 0)) [w0, w1, w2, w3, w4, w5, w6, w7, w8, w9, w10, w11, w12, w13, w14, w15])) ∧ (¬ (w3.1 3) < a2 → ((a1 < 0 → (((0 : Int) = 0 ∨ (0 : Int) = 1) ∧ Post (some (ab_I 0)) [w0, w1, w2, w3, w4, w5, w6, w7, w8, w9, w10, w11, w12, w13, w14, w15])) ∧ (¬ a1 < 0 → ((-2147483648 ≤ (w3.1 3) - a2 ∧ (w3.1 3) - a2 ≤ 2147483647) ∧ ((((w3.1 3) - a2) < a1 → (((0 : Int) = 0 ∨ (0 : Int) = 1) ∧ Post (some (ab_I 0)) [w0, w1, w2, w3, w4, w5, w6, w7, w8, w9, w10, w11, w12, w13, w14, w15])) ∧ (¬ ((w3.1 3) - a2) < a1 → (((1 : Int) = 0 ∨ (1 : Int) = 1) ∧ Post (some (ab_I 1)) [w0, w1, w2, w3, w4, w5, w6, w7, w8, w9, w10, w11, w12, w13, w14, w15]))))))))))) :
    ab_J x 0 [some (ab_O 0), some (ab_I a1), some (ab_I a2)] [] [w0, w1, w2, w3, w4, w5, w6, w7, w8, w9, w10, w11, w12, w13, w14, w15] kc ks := ab_go hx kX8_hasNotesFrom.2 24 [] 0 h
def mX8_twins : ab_M := ((yX8_twins, cX8_twins, 4, (some .int)), ([8, 4, 5, 5, 0, 1, 2, 7, 6, 1, 7, 7, 7, 7, 3, 3], [(0, 0), (0, 1), (0, 2), (0, 3), (0, 4), (0, 5), (0, 6), (0, 7), (0, 8), (0, 9), (0, 10), (0, 11), (0, 12), (0, 13), (0, 14), (0, 15)], [true, false, false, false, false, false, false, false, false, false, false, false, false, false, false, false], false, false, 0), (false, 8, 3))
def rX8_twins : List ab_R := [(0, .aload_n 0, 1, 0, 0, 0, [], none),
  (1, .iload_n 1, 1, 0, 0, 0, [], none),
  (2, .iload_n 3, 1, 0, 0, 0, [], none),
  (3, .invokevirtual 317, 3, 0, 0, 0, [], some mX8_hasNotesFrom),
  (6, .ifCond .eq 12, 3, 0, 0, 0, [18], none),
  (9, .aload_n 0, 1, 0, 0, 0, [], none),
  (10, .iload_n 2, 1, 0, 0, 0, [], none),
  (11, .iload_n 3, 1, 0, 0, 0, [], none),
  (12, .invokevirtual 317, 3, 0, 0, 0, [], some mX8_hasNotesFrom),
  (15, .ifCond .ne 9, 3, 0, 0, 0, [24], none),
  (18, .aload_n 0, 1, 0, 0, 0, [], none),
  (19, .iconst 1, 1, 0, 0, 0, [], none),
  (20, .invokevirtual 101, 3, 0, 0, 0, [], some mX8_refuse),
  (23, .ireturn, 1, 0, 0, 0, [], none),
  (24, .aload_n 0, 1, 0, 0, 0, [], none),
  (25, .aload_n 0, 1, 0, 0, 0, [], none),
  (26, .getfield 23, 3, 8, 2, 0, [], none),
  (29, .iload_n 1, 1, 0, 0, 0, [], none),
  (30, .iload_n 2, 1, 0, 0, 0, [], none),
  (31, .iload_n 3, 1, 0, 0, 0, [], none),
  (32, .invokevirtual 320, 3, 0, 0, 0, [], some mX5_areTwins),
  (35, .ifCond .eq 7, 3, 0, 0, 0, [42], none),
  (38, .iconst 1, 1, 0, 0, 0, [], none),
  (39, .goto 4, 3, 0, 0, 0, [43], none),
  (42, .iconst 0, 1, 0, 0, 0, [], none),
  (43, .invokevirtual 124, 3, 0, 0, 0, [], some mX8_grant),
  (46, .ireturn, 1, 0, 0, 0, [], none)]
set_option maxRecDepth 100000 in
theorem kX8_twins : ab_def_ok mX8_twins rX8_twins := ⟨ab_mok_of 1005 101 1003 1004 (by decide +kernel), [0, 0, 0, 1006, 0, 0, 0, 0, 1006, 0, 0, 0, 455, 0, 0, 0, 393, 0, 0, 0, 1010, 0, 0, 0, 0, 620, 0], by decide +kernel⟩
set_option maxRecDepth 100000 in
theorem vX8_twins_0 {x : ab_Cx} {d mc ms : Nat} {Post : Option ab_V → List ab_Ob → Prop} (hx : ab_At x mX8_twins d mc ms Post) (a1 a2 a3 : Int) (w0 w1 w2 w3 w4 w5 w6 w7 w8 w9 w10 w11 w12 w13 w14 w15 : ab_Ob) (kc ks : Nat)
    (h : (∃ r1 : Int, ab_Calls d 0 0 mX8_hasNotesFrom [ab_O 0, ab_I a1, ab_I a3] [w0, w1, w2, w3, w4, w5, w6, w7, w8, w9, w10, w11, w12, w13, w14, w15] (some (ab_I r1)) [w0, w1, w2, w3, w4, w5, w6, w7, w8, w9, w10, w11, w12, w13, w14, w15] ∧ ((r1 = 0 → (∃ r2 : Int, ∃ v3 : ab_Ob, ab_Calls d 0 0 mX8_refuse [ab_O 0, ab_I 1] [w0, w1, w2, w3, w4, w5, w6, w7, w8, w9, w10, w11, w12, w13, w14, w15] (some (ab_I r2)) [v3, w1, w2, w3, w4, w5, w6, w7, w8, w9, w10, w11, w12, w13, w14, w15] ∧ Post (some (ab_I r2)) [v3, w1, w2, w3, w4, w5, w6, w7, w8, w9, w10, w11, w12, w13, w14, w15])) ∧ (¬ r1 = 0 → (∃ r4 : Int, ab_Calls d 0 0 mX8_hasNotesFrom [ab_O 0, ab_I a2, ab_I a3] [w0, w1, w2, w3, w4, w5, w6, w7, w8, w9, w10, w11, w12, w13, w14, w15] (some (ab_I r4)) [w0, w1, w2, w3, w4, w5, w6, w7, w8, w9, w10, w11, w12, w13, w14, w15] ∧ ((¬ r4 = 0 → (∃ r5 : Int, ab_Calls d 0 0 mX5_areTwins [ab_O 0, ab_I a1, ab_I a2, ab_I a3] [w3] (some (ab_I r5)) [w3] ∧ ((r5 = 0 → (∃ r6 : Int, ∃ v7 : ab_Ob, ab_Calls d 0 0 mX8_grant [ab_O 0, ab_I 0] [w0, w1, w2, w3, w4, w5, w6, w7, w8, w9, w10, w11, w12, w13, w14, w15] (some (ab_I r6)) [v7, w1, w2, w3, w4, w5, w6, w7, w8, w9, w10, w11, w12, w13, w14, w15] ∧ Post (some (ab_I r6)) [v7, w1, w2, w3, w4, w5, w6, w7, w8, w9, w10, w11, w12, w13, w14, w15])) ∧ (¬ r5 = 0 → (∃ r8 : Int, ∃ v9 : ab_Ob, ab_Calls d 0 0 mX8_grant [ab_O 0, ab_I 1] [w0, w1, w2, w3, w4, w5, w6, w7, w8, w9, w10, w11, w12, w13, w14, w15] (some (ab_I r8)) [v9, w1, w2, w3, w4, w5, w6, w7, w8, w9, w10, w11, w12, w13, w14, w15] ∧ Post (some (ab_I r8)) [v9, w1, w2, w3, w4, w5, w6, w7, w8, w9, w10, w11, w12, w13, w14, w15]))))) ∧ (r4 = 0 → (∃ r10 : Int, ∃ v11 : ab_Ob, ab_Calls d 0 0 mX8_refuse [ab_O 0, ab_I 1] [w0, w1, w2, w3, w4, w5, w6, w7, w8, w9, w10, w11, w12, w13, w14, w15] (some (ab_I r10)) [v11, w1, w2, w3, w4, w5, w6, w7, w8, w9, w10, w11, w12, w13, w14, w15] ∧ Post (some (ab_I r10)) [v11, w1, w2, w3, w4, w5, w6, w7, w8, w9, w10, w11, w12, w13, w14, w15])))))))) :
    ab_J x 0 [some (ab_O 0), some (ab_I a1), some (ab_I a2), some (ab_I a3)] [] [w0, w1, w2, w3, w4, w5, w6, w7, w8, w9, w10, w11, w12, w13, w14, w15] kc ks := ab_go hx kX8_twins.2 26 [] 0 h
def mX8_twin : ab_M := ((yX8_twin, cX8_twin, 5, (some .int)), ([8, 4, 5, 5, 0, 1, 2, 7, 6, 1, 7, 7, 7, 7, 3, 3], [(0, 0), (0, 1), (0, 2), (0, 3), (0, 4), (0, 5), (0, 6), (0, 7), (0, 8), (0, 9), (0, 10), (0, 11), (0, 12), (0, 13), (0, 14), (0, 15)], [true, false, false, false, false, false, false, false, false, false, false, false, false, false, false, false], false, false, 0), (false, 8, 1))
def rX8_twin : List ab_R := [(0, .aload_n 0, 1, 0, 0, 0, [], none),
  (1, .invokevirtual 130, 3, 0, 0, 0, [], some mX8_hasPiece),
  (4, .ifCond .eq 12, 3, 0, 0, 0, [16], none),
  (7, .iload_n 1, 1, 0, 0, 0, [], none),
  (8, .ifCond .lt 8, 3, 0, 0, 0, [16], none),
  (11, .iload_n 1, 1, 0, 0, 0, [], none),
  (12, .iconst 2, 1, 0, 0, 0, [], none),
  (13, .if_icmp .le 9, 3, 0, 0, 0, [22], none),
  (16, .aload_n 0, 1, 0, 0, 0, [], none),
  (17, .iconst 1, 1, 0, 0, 0, [], none),
  (18, .invokevirtual 101, 3, 0, 0, 0, [], some mX8_refuse),
  (21, .ireturn, 1, 0, 0, 0, [], none),
  (22, .aload_n 0, 1, 0, 0, 0, [], none),
  (23, .getfield 23, 3, 8, 2, 0, [], none),
  (26, .getfield 121, 3, 5, 3, 0, [], none),
  (29, .iconst 2, 1, 0, 0, 0, [], none),
  (30, .idiv, 1, 0, 0, 0, [], none),
  (31, .istore_n 2, 1, 0, 0, 0, [], none),
  (32, .iload_n 2, 1, 0, 0, 0, [], none),
  (33, .iconst 1, 1, 0, 0, 0, [], none),
  (34, .if_icmp .lt 73, 3, 0, 0, 0, [107], none),
  (37, .iconst 0, 1, 0, 0, 0, [], none),
  (38, .istore_n 3, 1, 0, 0, 0, [], none),
  (39, .iload_n 3, 1, 0, 0, 0, [], none),
  (40, .iconst 2, 1, 0, 0, 0, [], none),
  (41, .iload_n 2, 1, 0, 0, 0, [], none),
  (42, .imul, 1, 0, 0, 0, [], none),
  (43, .iadd, 1, 0, 0, 0, [], none),
  (44, .aload_n 0, 1, 0, 0, 0, [], none),
  (45, .getfield 23, 3, 8, 2, 0, [], none),
  (48, .getfield 121, 3, 5, 3, 0, [], none),
  (51, .if_icmp .gt 50, 3, 0, 0, 0, [101], none),
  (54, .aload_n 0, 1, 0, 0, 0, [], none),
  (55, .getfield 23, 3, 8, 2, 0, [], none),
  (58, .iload_n 3, 1, 0, 0, 0, [], none),
  (59, .iload_n 2, 1, 0, 0, 0, [], none),
  (60, .invokevirtual 324, 3, 0, 0, 0, [], some mX5_nextTwin),
  (63, .istore 4, 2, 0, 0, 0, [], none),
  (65, .iload 4, 2, 0, 0, 0, [], none),
  (67, .iconst (-1), 1, 0, 0, 0, [], none),
  (68, .if_icmp .eq 27, 3, 0, 0, 0, [95], none),
  (71, .aload_n 0, 1, 0, 0, 0, [], none),
  (72, .iload_n 1, 1, 0, 0, 0, [], none),
  (73, .ifCond .ne 7, 3, 0, 0, 0, [80], none),
  (76, .iload_n 2, 1, 0, 0, 0, [], none),
  (77, .goto 14, 3, 0, 0, 0, [91], none),
  (80, .iload_n 1, 1, 0, 0, 0, [], none),
  (81, .iconst 1, 1, 0, 0, 0, [], none),
  (82, .if_icmp .ne 7, 3, 0, 0, 0, [89], none),
  (85, .iload_n 3, 1, 0, 0, 0, [], none),
  (86, .goto 5, 3, 0, 0, 0, [91], none),
  (89, .iload 4, 2, 0, 0, 0, [], none),
  (91, .invokevirtual 124, 3, 0, 0, 0, [], some mX8_grant),
  (94, .ireturn, 1, 0, 0, 0, [], none),
  (95, .iinc 3 1, 3, 0, 0, 0, [], none),
  (98, .goto (-59), 3, 0, 0, 0, [39], none),
  (101, .iinc 2 (-1), 3, 0, 0, 0, [], none),
  (104, .goto (-72), 3, 0, 0, 0, [32], none),
  (107, .aload_n 0, 1, 0, 0, 0, [], none),
  (108, .iload_n 1, 1, 0, 0, 0, [], none),
  (109, .ifCond .ne 7, 3, 0, 0, 0, [116], none),
  (112, .iconst 0, 1, 0, 0, 0, [], none),
  (113, .goto 5, 3, 0, 0, 0, [118], none),
  (116, .bipush (-2), 2, 0, 0, 0, [], none),
  (118, .invokevirtual 124, 3, 0, 0, 0, [], some mX8_grant),
  (121, .ireturn, 1, 0, 0, 0, [], none)]
set_option maxRecDepth 100000 in
theorem kX8_twin : ab_def_ok mX8_twin rX8_twin := ⟨ab_mok_of 1018 101 1016 1017 (by decide +kernel), [0, 636, 0, 0, 0, 0, 0, 0, 0, 0, 455, 0, 0, 393, 150, 0, 0, 0, 0, 0, 0, 0, 0, 0, 0, 0, 0, 0, 0, 393, 150, 0, 0, 393, 0, 0, 1019, 0, 0, 0, 0, 0, 0, 0, 0, 0, 0, 0, 0, 0, 0, 0, 620, 0, 0, 0, 0, 0, 0, 0, 0, 0, 0, 0, 620, 0], by decide +kernel⟩
set_option maxRecDepth 100000 in
theorem vX8_twin_0 {x : ab_Cx} {d mc ms : Nat} {Post : Option ab_V → List ab_Ob → Prop} (hx : ab_At x mX8_twin d mc ms Post) (a1 : Int) (w0 w1 w2 w3 w4 w5 w6 w7 w8 w9 w10 w11 w12 w13 w14 w15 : ab_Ob) (kc ks : Nat)
    (h : (∃ r1 : Int, ab_Calls d 0 0 mX8_hasPiece [ab_O 0] [w0, w1, w2, w3, w4, w5, w6, w7, w8, w9, w10, w11, w12, w13, w14, w15] (some (ab_I r1)) [w0, w1, w2, w3, w4, w5, w6, w7, w8, w9, w10, w11, w12, w13, w14, w15] ∧ ((r1 = 0 → (∃ r2 : Int, ∃ v3 : ab_Ob, ab_Calls d 0 0 mX8_refuse [ab_O 0, ab_I 1] [w0, w1, w2, w3, w4, w5, w6, w7, w8, w9, w10, w11, w12, w13, w14, w15] (some (ab_I r2)) [v3, w1, w2, w3, w4, w5, w6, w7, w8, w9, w10, w11, w12, w13, w14, w15] ∧ Post (some (ab_I r2)) [v3, w1, w2, w3, w4, w5, w6, w7, w8, w9, w10, w11, w12, w13, w14, w15])) ∧ (¬ r1 = 0 → ((a1 < 0 → (∃ r4 : Int, ∃ v5 : ab_Ob, ab_Calls d 0 0 mX8_refuse [ab_O 0, ab_I 1] [w0, w1, w2, w3, w4, w5, w6, w7, w8, w9, w10, w11, w12, w13, w14, w15] (some (ab_I r4)) [v5, w1, w2, w3, w4, w5, w6, w7, w8, w9, w10, w11, w12, w13, w14, w15] ∧ Post (some (ab_I r4)) [v5, w1, w2, w3, w4, w5, w6, w7, w8, w9, w10, w11, w12, w13, w14, w15])) ∧ (¬ a1 < 0 → ((a1 ≤ 2 → ((¬ (2 : Int) = 0) ∧ ((-2147483648 ≤ (Int.tdiv (w3.1 3) 2) ∧ (Int.tdiv (w3.1 3) 2) ≤ 2147483647) ∧ ab_J x 32 [some (ab_O 0), some (ab_I a1), some (ab_I (Int.tdiv (w3.1 3) 2)), none, none] [] [w0, w1, w2, w3, w4, w5, w6, w7, w8, w9, w10, w11, w12, w13, w14, w15] kc ks))) ∧ (¬ a1 ≤ 2 → (∃ r6 : Int, ∃ v7 : ab_Ob, ab_Calls d 0 0 mX8_refuse [ab_O 0, ab_I 1] [w0, w1, w2, w3, w4, w5, w6, w7, w8, w9, w10, w11, w12, w13, w14, w15] (some (ab_I r6)) [v7, w1, w2, w3, w4, w5, w6, w7, w8, w9, w10, w11, w12, w13, w14, w15] ∧ Post (some (ab_I r6)) [v7, w1, w2, w3, w4, w5, w6, w7, w8, w9, w10, w11, w12, w13, w14, w15]))))))))) :
    ab_J x 0 [some (ab_O 0), some (ab_I a1), none, none, none] [] [w0, w1, w2, w3, w4, w5, w6, w7, w8, w9, w10, w11, w12, w13, w14, w15] kc ks := ab_go hx kX8_twin.2 19 [(32, [true, true, true, false, false]), (39, [true, true, true, true, false])] 0 h
set_option maxRecDepth 100000 in
theorem vX8_twin_32 {x : ab_Cx} {d mc ms : Nat} {Post : Option ab_V → List ab_Ob → Prop} (hx : ab_At x mX8_twin d mc ms Post) (l1 l2 : Int) (w0 w1 w2 w3 w4 w5 w6 w7 w8 w9 w10 w11 w12 w13 w14 w15 : ab_Ob) (kc ks : Nat)
    (h : ((l2 < 1 → ((¬ l1 = 0 → (∃ r1 : Int, ∃ v2 : ab_Ob, ab_Calls d 0 0 mX8_grant [ab_O 0, ab_I (-2)] [w0, w1, w2, w3, w4, w5, w6, w7, w8, w9, w10, w11, w12, w13, w14, w15] (some (ab_I r1)) [v2, w1, w2, w3, w4, w5, w6, w7, w8, w9, w10, w11, w12, w13, w14, w15] ∧ Post (some (ab_I r1)) [v2, w1, w2, w3, w4, w5, w6, w7, w8, w9, w10, w11, w12, w13, w14, w15])) ∧ (l1 = 0 → (∃ r3 : Int, ∃ v4 : ab_Ob, ab_Calls d 0 0 mX8_grant [ab_O 0, ab_I 0] [w0, w1, w2, w3, w4, w5, w6, w7, w8, w9, w10, w11, w12, w13, w14, w15] (some (ab_I r3)) [v4, w1, w2, w3, w4, w5, w6, w7, w8, w9, w10, w11, w12, w13, w14, w15] ∧ Post (some (ab_I r3)) [v4, w1, w2, w3, w4, w5, w6, w7, w8, w9, w10, w11, w12, w13, w14, w15])))) ∧ (¬ l2 < 1 → ab_J x 39 [some (ab_O 0), some (ab_I l1), some (ab_I l2), some (ab_I 0), none] [] [w0, w1, w2, w3, w4, w5, w6, w7, w8, w9, w10, w11, w12, w13, w14, w15] kc ks))) :
    ab_J x 32 [some (ab_O 0), some (ab_I l1), some (ab_I l2), none, none] [] [w0, w1, w2, w3, w4, w5, w6, w7, w8, w9, w10, w11, w12, w13, w14, w15] kc ks := ab_go hx kX8_twin.2 14 [(32, [true, true, true, false, false]), (39, [true, true, true, true, false])] 32 h
set_option maxRecDepth 100000 in
theorem vX8_twin_39 {x : ab_Cx} {d mc ms : Nat} {Post : Option ab_V → List ab_Ob → Prop} (hx : ab_At x mX8_twin d mc ms Post) (l1 l2 l3 : Int) (w0 w1 w2 w3 w4 w5 w6 w7 w8 w9 w10 w11 w12 w13 w14 w15 : ab_Ob) (kc ks : Nat)
    (h : ((-2147483648 ≤ 2 * l2 ∧ 2 * l2 ≤ 2147483647) ∧ ((-2147483648 ≤ l3 + (2 * l2) ∧ l3 + (2 * l2) ≤ 2147483647) ∧ (((w3.1 3) < (l3 + (2 * l2)) → ((-2147483648 ≤ l2 + (-1) ∧ l2 + (-1) ≤ 2147483647) ∧ ab_J x 32 [some (ab_O 0), some (ab_I l1), some (ab_I (l2 + (-1))), none, none] [] [w0, w1, w2, w3, w4, w5, w6, w7, w8, w9, w10, w11, w12, w13, w14, w15] kc ks)) ∧ (¬ (w3.1 3) < (l3 + (2 * l2)) → (∃ r1 : Int, ab_Calls d 0 0 mX5_nextTwin [ab_O 0, ab_I l3, ab_I l2] [w3] (some (ab_I r1)) [w3] ∧ ((r1 = (-1) → ((-2147483648 ≤ l3 + 1 ∧ l3 + 1 ≤ 2147483647) ∧ ab_J x 39 [some (ab_O 0), some (ab_I l1), some (ab_I l2), some (ab_I (l3 + 1)), none] [] [w0, w1, w2, w3, w4, w5, w6, w7, w8, w9, w10, w11, w12, w13, w14, w15] kc ks)) ∧ (¬ r1 = (-1) → ((¬ l1 = 0 → ((¬ l1 = 1 → (∃ r2 : Int, ∃ v3 : ab_Ob, ab_Calls d 0 0 mX8_grant [ab_O 0, ab_I r1] [w0, w1, w2, w3, w4, w5, w6, w7, w8, w9, w10, w11, w12, w13, w14, w15] (some (ab_I r2)) [v3, w1, w2, w3, w4, w5, w6, w7, w8, w9, w10, w11, w12, w13, w14, w15] ∧ Post (some (ab_I r2)) [v3, w1, w2, w3, w4, w5, w6, w7, w8, w9, w10, w11, w12, w13, w14, w15])) ∧ (l1 = 1 → (∃ r4 : Int, ∃ v5 : ab_Ob, ab_Calls d 0 0 mX8_grant [ab_O 0, ab_I l3] [w0, w1, w2, w3, w4, w5, w6, w7, w8, w9, w10, w11, w12, w13, w14, w15] (some (ab_I r4)) [v5, w1, w2, w3, w4, w5, w6, w7, w8, w9, w10, w11, w12, w13, w14, w15] ∧ Post (some (ab_I r4)) [v5, w1, w2, w3, w4, w5, w6, w7, w8, w9, w10, w11, w12, w13, w14, w15])))) ∧ (l1 = 0 → (∃ r6 : Int, ∃ v7 : ab_Ob, ab_Calls d 0 0 mX8_grant [ab_O 0, ab_I l2] [w0, w1, w2, w3, w4, w5, w6, w7, w8, w9, w10, w11, w12, w13, w14, w15] (some (ab_I r6)) [v7, w1, w2, w3, w4, w5, w6, w7, w8, w9, w10, w11, w12, w13, w14, w15] ∧ Post (some (ab_I r6)) [v7, w1, w2, w3, w4, w5, w6, w7, w8, w9, w10, w11, w12, w13, w14, w15]))))))))))) :
    ab_J x 39 [some (ab_O 0), some (ab_I l1), some (ab_I l2), some (ab_I l3), none] [] [w0, w1, w2, w3, w4, w5, w6, w7, w8, w9, w10, w11, w12, w13, w14, w15] kc ks := ab_go hx kX8_twin.2 32 [(32, [true, true, true, false, false]), (39, [true, true, true, true, false])] 39 h
def mX8_alike : ab_M := ((yX8_alike, cX8_alike, 5, (some .int)), ([8, 4, 5, 5, 0, 1, 2, 7, 6, 1, 7, 7, 7, 7, 3, 3], [(0, 0), (0, 1), (0, 2), (0, 3), (0, 4), (0, 5), (0, 6), (0, 7), (0, 8), (0, 9), (0, 10), (0, 11), (0, 12), (0, 13), (0, 14), (0, 15)], [true, false, false, false, false, true, false, false, false, false, false, false, true, true, false, false], true, true, 0), (false, 8, 3))
def rX8_alike : List ab_R := [(0, .aload_n 0, 1, 0, 0, 0, [], none),
  (1, .iload_n 1, 1, 0, 0, 0, [], none),
  (2, .iload_n 3, 1, 0, 0, 0, [], none),
  (3, .invokevirtual 317, 3, 0, 0, 0, [], some mX8_hasNotesFrom),
  (6, .ifCond .eq 12, 3, 0, 0, 0, [18], none),
  (9, .aload_n 0, 1, 0, 0, 0, [], none),
  (10, .iload_n 2, 1, 0, 0, 0, [], none),
  (11, .iload_n 3, 1, 0, 0, 0, [], none),
  (12, .invokevirtual 317, 3, 0, 0, 0, [], some mX8_hasNotesFrom),
  (15, .ifCond .ne 9, 3, 0, 0, 0, [24], none),
  (18, .aload_n 0, 1, 0, 0, 0, [], none),
  (19, .iconst 1, 1, 0, 0, 0, [], none),
  (20, .invokevirtual 101, 3, 0, 0, 0, [], some mX8_refuse),
  (23, .ireturn, 1, 0, 0, 0, [], none),
  (24, .aload_n 0, 1, 0, 0, 0, [], none),
  (25, .invokevirtual 188, 3, 0, 0, 0, [], some mX8_freshSpans),
  (28, .astore 4, 2, 0, 0, 0, [], none),
  (30, .aload_n 0, 1, 0, 0, 0, [], none),
  (31, .getfield 78, 3, 8, 13, 0, [], none),
  (34, .aload 4, 2, 0, 0, 0, [], none),
  (36, .iload_n 1, 1, 0, 0, 0, [], none),
  (37, .iload_n 1, 1, 0, 0, 0, [], none),
  (38, .iload_n 3, 1, 0, 0, 0, [], none),
  (39, .iadd, 1, 0, 0, 0, [], none),
  (40, .iconst 1, 1, 0, 0, 0, [], none),
  (41, .isub, 1, 0, 0, 0, [], none),
  (42, .invokevirtual 327, 3, 0, 0, 0, [], some mX7_build),
  (45, .aload_n 0, 1, 0, 0, 0, [], none),
  (46, .getfield 81, 3, 8, 14, 0, [], none),
  (49, .aload 4, 2, 0, 0, 0, [], none),
  (51, .iload_n 2, 1, 0, 0, 0, [], none),
  (52, .iload_n 2, 1, 0, 0, 0, [], none),
  (53, .iload_n 3, 1, 0, 0, 0, [], none),
  (54, .iadd, 1, 0, 0, 0, [], none),
  (55, .iconst 1, 1, 0, 0, 0, [], none),
  (56, .isub, 1, 0, 0, 0, [], none),
  (57, .invokevirtual 327, 3, 0, 0, 0, [], some mX7_build),
  (60, .aload_n 0, 1, 0, 0, 0, [], none),
  (61, .aload_n 0, 1, 0, 0, 0, [], none),
  (62, .getfield 78, 3, 8, 13, 0, [], none),
  (65, .aload_n 0, 1, 0, 0, 0, [], none),
  (66, .getfield 81, 3, 8, 14, 0, [], none),
  (69, .iload_n 2, 1, 0, 0, 0, [], none),
  (70, .iload_n 1, 1, 0, 0, 0, [], none),
  (71, .isub, 1, 0, 0, 0, [], none),
  (72, .invokevirtual 331, 3, 0, 0, 0, [], some mX7_isLike),
  (75, .ifCond .eq 7, 3, 0, 0, 0, [82], none),
  (78, .iconst 1, 1, 0, 0, 0, [], none),
  (79, .goto 4, 3, 0, 0, 0, [83], none),
  (82, .iconst 0, 1, 0, 0, 0, [], none),
  (83, .invokevirtual 124, 3, 0, 0, 0, [], some mX8_grant),
  (86, .ireturn, 1, 0, 0, 0, [], none)]
set_option maxRecDepth 100000 in
theorem kX8_alike : ab_def_ok mX8_alike rX8_alike := ⟨ab_mok_of 1027 101 1025 1026 (by decide +kernel), [0, 0, 0, 1006, 0, 0, 0, 0, 1006, 0, 0, 0, 455, 0, 0, 660, 0, 0, 404, 0, 0, 0, 0, 0, 0, 0, 698, 0, 405, 0, 0, 0, 0, 0, 0, 0, 698, 0, 0, 404, 0, 405, 0, 0, 0, 1028, 0, 0, 0, 0, 620, 0], by decide +kernel⟩
set_option maxRecDepth 100000 in
theorem vX8_alike_0 {x : ab_Cx} {d mc ms : Nat} {Post : Option ab_V → List ab_Ob → Prop} (hx : ab_At x mX8_alike d mc ms Post) (a1 a2 a3 : Int) (w0 w1 w2 w3 w4 w5 w6 w7 w8 w9 w10 w11 w12 w13 w14 w15 : ab_Ob) (kc ks : Nat)
    (h : (∃ r1 : Int, ab_Calls d 0 0 mX8_hasNotesFrom [ab_O 0, ab_I a1, ab_I a3] [w0, w1, w2, w3, w4, w5, w6, w7, w8, w9, w10, w11, w12, w13, w14, w15] (some (ab_I r1)) [w0, w1, w2, w3, w4, w5, w6, w7, w8, w9, w10, w11, w12, w13, w14, w15] ∧ ((r1 = 0 → (∃ r2 : Int, ∃ v3 : ab_Ob, ab_Calls d 0 0 mX8_refuse [ab_O 0, ab_I 1] [w0, w1, w2, w3, w4, w5, w6, w7, w8, w9, w10, w11, w12, w13, w14, w15] (some (ab_I r2)) [v3, w1, w2, w3, w4, w5, w6, w7, w8, w9, w10, w11, w12, w13, w14, w15] ∧ Post (some (ab_I r2)) [v3, w1, w2, w3, w4, w5, w6, w7, w8, w9, w10, w11, w12, w13, w14, w15])) ∧ (¬ r1 = 0 → (∃ r4 : Int, ab_Calls d 0 0 mX8_hasNotesFrom [ab_O 0, ab_I a2, ab_I a3] [w0, w1, w2, w3, w4, w5, w6, w7, w8, w9, w10, w11, w12, w13, w14, w15] (some (ab_I r4)) [w0, w1, w2, w3, w4, w5, w6, w7, w8, w9, w10, w11, w12, w13, w14, w15] ∧ ((¬ r4 = 0 → (∃ mc5 ms6 : Nat, (kc + mc5 ≤ mc ∧ ks + ms6 ≤ ms) ∧ ∃ v7 : ab_Ob, ∃ v8 : ab_Ob, ab_Calls d mc5 ms6 mX8_freshSpans [ab_O 0] [w0, w1, w2, w3, w4, w5, w6, w7, w8, w9, w10, w11, w12, w13, w14, w15] (some (ab_O 5)) [v7, w1, w2, w3, w4, v8, w6, w7, w8, w9, w10, w11, w12, w13, w14, w15] ∧ ((-2147483648 ≤ a1 + a3 ∧ a1 + a3 ≤ 2147483647) ∧ ((-2147483648 ≤ (a1 + a3) - 1 ∧ (a1 + a3) - 1 ≤ 2147483647) ∧ (∃ v9 : ab_Ob, ab_Calls d 0 0 mX7_build [ab_O 0, ab_O 1, ab_I a1, ab_I ((a1 + a3) - 1)] [w12, v8] none [v9, v8] ∧ ((-2147483648 ≤ a2 + a3 ∧ a2 + a3 ≤ 2147483647) ∧ ((-2147483648 ≤ (a2 + a3) - 1 ∧ (a2 + a3) - 1 ≤ 2147483647) ∧ (∃ v10 : ab_Ob, ab_Calls d 0 0 mX7_build [ab_O 0, ab_O 1, ab_I a2, ab_I ((a2 + a3) - 1)] [w13, v8] none [v10, v8] ∧ ((-2147483648 ≤ a2 - a1 ∧ a2 - a1 ≤ 2147483647) ∧ (∃ r11 : Int, ab_Calls d 0 0 mX7_isLike [ab_O 0, ab_O 1, ab_I (a2 - a1)] [v9, v10] (some (ab_I r11)) [v9, v10] ∧ ((r11 = 0 → (∃ r12 : Int, ∃ v13 : ab_Ob, ab_Calls d 0 0 mX8_grant [ab_O 0, ab_I 0] [v7, w1, w2, w3, w4, v8, w6, w7, w8, w9, w10, w11, v9, v10, w14, w15] (some (ab_I r12)) [v13, w1, w2, w3, w4, v8, w6, w7, w8, w9, w10, w11, v9, v10, w14, w15] ∧ Post (some (ab_I r12)) [v13, w1, w2, w3, w4, v8, w6, w7, w8, w9, w10, w11, v9, v10, w14, w15])) ∧ (¬ r11 = 0 → (∃ r14 : Int, ∃ v15 : ab_Ob, ab_Calls d 0 0 mX8_grant [ab_O 0, ab_I 1] [v7, w1, w2, w3, w4, v8, w6, w7, w8, w9, w10, w11, v9, v10, w14, w15] (some (ab_I r14)) [v15, w1, w2, w3, w4, v8, w6, w7, w8, w9, w10, w11, v9, v10, w14, w15] ∧ Post (some (ab_I r14)) [v15, w1, w2, w3, w4, v8, w6, w7, w8, w9, w10, w11, v9, v10, w14, w15]))))))))))))) ∧ (r4 = 0 → (∃ r16 : Int, ∃ v17 : ab_Ob, ab_Calls d 0 0 mX8_refuse [ab_O 0, ab_I 1] [w0, w1, w2, w3, w4, w5, w6, w7, w8, w9, w10, w11, w12, w13, w14, w15] (some (ab_I r16)) [v17, w1, w2, w3, w4, w5, w6, w7, w8, w9, w10, w11, w12, w13, w14, w15] ∧ Post (some (ab_I r16)) [v17, w1, w2, w3, w4, w5, w6, w7, w8, w9, w10, w11, w12, w13, w14, w15])))))))) :
    ab_J x 0 [some (ab_O 0), some (ab_I a1), some (ab_I a2), some (ab_I a3), none] [] [w0, w1, w2, w3, w4, w5, w6, w7, w8, w9, w10, w11, w12, w13, w14, w15] kc ks := ab_go hx kX8_alike.2 51 [] 0 h
def mX8_wholeBreaks : ab_M := ((yX8_wholeBreaks, cX8_wholeBreaks, 1, (some .int)), ([8, 4, 5, 5, 0, 1, 2, 7, 6, 1, 7, 7, 7, 7, 3, 3], [(0, 0), (0, 1), (0, 2), (0, 3), (0, 4), (0, 5), (0, 6), (0, 7), (0, 8), (0, 9), (0, 10), (0, 11), (0, 12), (0, 13), (0, 14), (0, 15)], [true, false, false, false, false, true, false, false, false, false, false, false, false, false, false, false], true, true, 0), (false, 8, 0))
def rX8_wholeBreaks : List ab_R := [(0, .aload_n 0, 1, 0, 0, 0, [], none),
  (1, .invokevirtual 188, 3, 0, 0, 0, [], some mX8_freshSpans),
  (4, .iconst 0, 1, 0, 0, 0, [], none),
  (5, .aload_n 0, 1, 0, 0, 0, [], none),
  (6, .getfield 23, 3, 8, 2, 0, [], none),
  (9, .getfield 121, 3, 5, 3, 0, [], none),
  (12, .iconst 1, 1, 0, 0, 0, [], none),
  (13, .isub, 1, 0, 0, 0, [], none),
  (14, .invokevirtual 192, 3, 0, 0, 0, [], some mX1_least),
  (17, .ireturn, 1, 0, 0, 0, [], none)]
set_option maxRecDepth 100000 in
theorem kX8_wholeBreaks : ab_def_ok mX8_wholeBreaks rX8_wholeBreaks := ⟨ab_mok_of 1039 101 1038 40 (by decide +kernel), [0, 660, 0, 0, 393, 150, 0, 0, 755, 0], by decide +kernel⟩
set_option maxRecDepth 100000 in
theorem vX8_wholeBreaks_0 {x : ab_Cx} {d mc ms : Nat} {Post : Option ab_V → List ab_Ob → Prop} (hx : ab_At x mX8_wholeBreaks d mc ms Post) (w0 w1 w2 w3 w4 w5 w6 w7 w8 w9 w10 w11 w12 w13 w14 w15 : ab_Ob) (kc ks : Nat)
    (h : (∃ mc1 ms2 : Nat, (kc + mc1 ≤ mc ∧ ks + ms2 ≤ ms) ∧ ∃ v3 : ab_Ob, ∃ v4 : ab_Ob, ab_Calls d mc1 ms2 mX8_freshSpans [ab_O 0] [w0, w1, w2, w3, w4, w5, w6, w7, w8, w9, w10, w11, w12, w13, w14, w15] (some (ab_O 5)) [v3, w1, w2, w3, w4, v4, w6, w7, w8, w9, w10, w11, w12, w13, w14, w15] ∧ ((-2147483648 ≤ (w3.1 3) - 1 ∧ (w3.1 3) - 1 ≤ 2147483647) ∧ (∃ r5 : Int, ab_Calls d 0 0 mX1_least [ab_O 0, ab_I 0, ab_I ((w3.1 3) - 1)] [v4] (some (ab_I r5)) [v4] ∧ Post (some (ab_I r5)) [v3, w1, w2, w3, w4, v4, w6, w7, w8, w9, w10, w11, w12, w13, w14, w15])))) :
    ab_J x 0 [some (ab_O 0)] [] [w0, w1, w2, w3, w4, w5, w6, w7, w8, w9, w10, w11, w12, w13, w14, w15] kc ks := ab_go hx kX8_wholeBreaks.2 14 [] 0 h
def mX8_keep : ab_M := ((yX8_keep, cX8_keep, 1, (some .int)), ([8, 4, 5, 5, 0, 1, 2, 7, 6, 1, 7, 7, 7, 7, 3, 3], [(0, 0), (0, 1), (0, 2), (0, 3), (0, 4), (0, 5), (0, 6), (0, 7), (0, 8), (0, 9), (0, 10), (0, 11), (0, 12), (0, 13), (0, 14), (0, 15)], [true, false, false, false, false, true, false, false, false, false, false, true, false, false, false, false], true, true, 0), (false, 8, 0))
def rX8_keep : List ab_R := [(0, .aload_n 0, 1, 0, 0, 0, [], none),
  (1, .invokevirtual 130, 3, 0, 0, 0, [], some mX8_hasPiece),
  (4, .ifCond .ne 9, 3, 0, 0, 0, [13], none),
  (7, .aload_n 0, 1, 0, 0, 0, [], none),
  (8, .iconst 1, 1, 0, 0, 0, [], none),
  (9, .invokevirtual 101, 3, 0, 0, 0, [], some mX8_refuse),
  (12, .ireturn, 1, 0, 0, 0, [], none),
  (13, .aload_n 0, 1, 0, 0, 0, [], none),
  (14, .getfield 72, 3, 8, 11, 0, [], none),
  (17, .aload_n 0, 1, 0, 0, 0, [], none),
  (18, .invokevirtual 188, 3, 0, 0, 0, [], some mX8_freshSpans),
  (21, .iconst 0, 1, 0, 0, 0, [], none),
  (22, .aload_n 0, 1, 0, 0, 0, [], none),
  (23, .getfield 23, 3, 8, 2, 0, [], none),
  (26, .getfield 121, 3, 5, 3, 0, [], none),
  (29, .iconst 1, 1, 0, 0, 0, [], none),
  (30, .isub, 1, 0, 0, 0, [], none),
  (31, .invokevirtual 327, 3, 0, 0, 0, [], some mX7_build),
  (34, .aload_n 0, 1, 0, 0, 0, [], none),
  (35, .iconst 1, 1, 0, 0, 0, [], none),
  (36, .putfield 75, 3, 8, 12, 0, [], none),
  (39, .aload_n 0, 1, 0, 0, 0, [], none),
  (40, .aload_n 0, 1, 0, 0, 0, [], none),
  (41, .invokevirtual 335, 3, 0, 0, 0, [], some mX8_wholeBreaks),
  (44, .invokevirtual 124, 3, 0, 0, 0, [], some mX8_grant),
  (47, .ireturn, 1, 0, 0, 0, [], none)]
set_option maxRecDepth 100000 in
theorem kX8_keep : ab_def_ok mX8_keep rX8_keep := ⟨ab_mok_of 1035 101 1033 1034 (by decide +kernel), [0, 636, 0, 0, 0, 455, 0, 0, 402, 0, 660, 0, 0, 393, 150, 0, 0, 698, 0, 0, 403, 0, 0, 1036, 620, 0], by decide +kernel⟩
set_option maxRecDepth 100000 in
theorem vX8_keep_0 {x : ab_Cx} {d mc ms : Nat} {Post : Option ab_V → List ab_Ob → Prop} (hx : ab_At x mX8_keep d mc ms Post) (w0 w1 w2 w3 w4 w5 w6 w7 w8 w9 w10 w11 w12 w13 w14 w15 : ab_Ob) (kc ks : Nat)
    (h : (∃ r1 : Int, ab_Calls d 0 0 mX8_hasPiece [ab_O 0] [w0, w1, w2, w3, w4, w5, w6, w7, w8, w9, w10, w11, w12, w13, w14, w15] (some (ab_I r1)) [w0, w1, w2, w3, w4, w5, w6, w7, w8, w9, w10, w11, w12, w13, w14, w15] ∧ ((¬ r1 = 0 → (∃ mc2 ms3 : Nat, (kc + mc2 ≤ mc ∧ ks + ms3 ≤ ms) ∧ ∃ v4 : ab_Ob, ∃ v5 : ab_Ob, ab_Calls d mc2 ms3 mX8_freshSpans [ab_O 0] [w0, w1, w2, w3, w4, w5, w6, w7, w8, w9, w10, w11, w12, w13, w14, w15] (some (ab_O 5)) [v4, w1, w2, w3, w4, v5, w6, w7, w8, w9, w10, w11, w12, w13, w14, w15] ∧ ((-2147483648 ≤ (w3.1 3) - 1 ∧ (w3.1 3) - 1 ≤ 2147483647) ∧ (∃ v6 : ab_Ob, ab_Calls d 0 0 mX7_build [ab_O 0, ab_O 1, ab_I 0, ab_I ((w3.1 3) - 1)] [w11, v5] none [v6, v5] ∧ (((1 : Int) = 0 ∨ (1 : Int) = 1) ∧ (∃ mc7 ms8 : Nat, ((kc + mc2) + mc7 ≤ mc ∧ (ks + ms3) + ms8 ≤ ms) ∧ ∃ r9 : Int, ∃ v10 : ab_Ob, ∃ v11 : ab_Ob, ab_Calls d mc7 ms8 mX8_wholeBreaks [ab_O 0] [(ab_pf v4 12 1), w1, w2, w3, w4, v5, w6, w7, w8, w9, w10, v6, w12, w13, w14, w15] (some (ab_I r9)) [v10, w1, w2, w3, w4, v11, w6, w7, w8, w9, w10, v6, w12, w13, w14, w15] ∧ (∃ r12 : Int, ∃ v13 : ab_Ob, ab_Calls d 0 0 mX8_grant [ab_O 0, ab_I r9] [v10, w1, w2, w3, w4, v11, w6, w7, w8, w9, w10, v6, w12, w13, w14, w15] (some (ab_I r12)) [v13, w1, w2, w3, w4, v11, w6, w7, w8, w9, w10, v6, w12, w13, w14, w15] ∧ Post (some (ab_I r12)) [v13, w1, w2, w3, w4, v11, w6, w7, w8, w9, w10, v6, w12, w13, w14, w15]))))))) ∧ (r1 = 0 → (∃ r14 : Int, ∃ v15 : ab_Ob, ab_Calls d 0 0 mX8_refuse [ab_O 0, ab_I 1] [w0, w1, w2, w3, w4, w5, w6, w7, w8, w9, w10, w11, w12, w13, w14, w15] (some (ab_I r14)) [v15, w1, w2, w3, w4, w5, w6, w7, w8, w9, w10, w11, w12, w13, w14, w15] ∧ Post (some (ab_I r14)) [v15, w1, w2, w3, w4, w5, w6, w7, w8, w9, w10, w11, w12, w13, w14, w15]))))) :
    ab_J x 0 [some (ab_O 0)] [] [w0, w1, w2, w3, w4, w5, w6, w7, w8, w9, w10, w11, w12, w13, w14, w15] kc ks := ab_go hx kX8_keep.2 26 [] 0 h
def mX8_unlike : ab_M := ((yX8_unlike, cX8_unlike, 2, (some .int)), ([8, 4, 5, 5, 0, 1, 2, 7, 6, 1, 7, 7, 7, 7, 3, 3], [(0, 0), (0, 1), (0, 2), (0, 3), (0, 4), (0, 5), (0, 6), (0, 7), (0, 8), (0, 9), (0, 10), (0, 11), (0, 12), (0, 13), (0, 14), (0, 15)], [true, false, false, false, false, true, false, true, false, false, false, false, false, false, false, false], true, true, 0), (false, 8, 1))
def rX8_unlike : List ab_R := [(0, .aload_n 0, 1, 0, 0, 0, [], none),
  (1, .getfield 75, 3, 8, 12, 0, [], none),
  (4, .ifCond .ne 9, 3, 0, 0, 0, [13], none),
  (7, .aload_n 0, 1, 0, 0, 0, [], none),
  (8, .iconst 1, 1, 0, 0, 0, [], none),
  (9, .invokevirtual 101, 3, 0, 0, 0, [], some mX8_refuse),
  (12, .ireturn, 1, 0, 0, 0, [], none),
  (13, .iload_n 1, 1, 0, 0, 0, [], none),
  (14, .tableswitch 81 0 2 #[26, 42, 58], 26, 0, 0, 0, [95, 40, 56, 72], none),
  (40, .aload_n 0, 1, 0, 0, 0, [], none),
  (41, .aload_n 0, 1, 0, 0, 0, [], none),
  (42, .invokevirtual 171, 3, 0, 0, 0, [], some mX8_freshTree),
  (45, .aload_n 0, 1, 0, 0, 0, [], none),
  (46, .getfield 72, 3, 8, 11, 0, [], none),
  (49, .invokevirtual 338, 3, 0, 0, 0, [], some mX7_spansNotIn),
  (52, .invokevirtual 124, 3, 0, 0, 0, [], some mX8_grant),
  (55, .ireturn, 1, 0, 0, 0, [], none),
  (56, .aload_n 0, 1, 0, 0, 0, [], none),
  (57, .aload_n 0, 1, 0, 0, 0, [], none),
  (58, .invokevirtual 171, 3, 0, 0, 0, [], some mX8_freshTree),
  (61, .aload_n 0, 1, 0, 0, 0, [], none),
  (62, .getfield 72, 3, 8, 11, 0, [], none),
  (65, .invokevirtual 342, 3, 0, 0, 0, [], some mX7_headsUnlike),
  (68, .invokevirtual 124, 3, 0, 0, 0, [], some mX8_grant),
  (71, .ireturn, 1, 0, 0, 0, [], none),
  (72, .aload_n 0, 1, 0, 0, 0, [], none),
  (73, .aload_n 0, 1, 0, 0, 0, [], none),
  (74, .invokevirtual 171, 3, 0, 0, 0, [], some mX8_freshTree),
  (77, .aload_n 0, 1, 0, 0, 0, [], none),
  (78, .getfield 72, 3, 8, 11, 0, [], none),
  (81, .aload_n 0, 1, 0, 0, 0, [], none),
  (82, .getfield 23, 3, 8, 2, 0, [], none),
  (85, .getfield 121, 3, 5, 3, 0, [], none),
  (88, .invokevirtual 345, 3, 0, 0, 0, [], some mX7_ranksUnlike),
  (91, .invokevirtual 124, 3, 0, 0, 0, [], some mX8_grant),
  (94, .ireturn, 1, 0, 0, 0, [], none),
  (95, .aload_n 0, 1, 0, 0, 0, [], none),
  (96, .iconst 1, 1, 0, 0, 0, [], none),
  (97, .invokevirtual 101, 3, 0, 0, 0, [], some mX8_refuse),
  (100, .ireturn, 1, 0, 0, 0, [], none)]
set_option maxRecDepth 100000 in
theorem kX8_unlike : ab_def_ok mX8_unlike rX8_unlike := ⟨ab_mok_of 1043 101 1041 1042 (by decide +kernel), [0, 403, 0, 0, 0, 455, 0, 0, 0, 0, 0, 656, 0, 402, 1044, 620, 0, 0, 0, 656, 0, 402, 1052, 620, 0, 0, 0, 656, 0, 402, 0, 393, 150, 1056, 620, 0, 0, 0, 455, 0], by decide +kernel⟩
set_option maxRecDepth 100000 in
theorem vX8_unlike_0 {x : ab_Cx} {d mc ms : Nat} {Post : Option ab_V → List ab_Ob → Prop} (hx : ab_At x mX8_unlike d mc ms Post) (a1 : Int) (w0 w1 w2 w3 w4 w5 w6 w7 w8 w9 w10 w11 w12 w13 w14 w15 : ab_Ob) (kc ks : Nat)
    (h : ((¬ (w0.1 12) = 0 → ((a1 < 0 ∨ 2 < a1 → (∃ r25 : Int, ∃ v26 : ab_Ob, ab_Calls d 0 0 mX8_refuse [ab_O 0, ab_I 1] [w0, w1, w2, w3, w4, w5, w6, w7, w8, w9, w10, w11, w12, w13, w14, w15] (some (ab_I r25)) [v26, w1, w2, w3, w4, w5, w6, w7, w8, w9, w10, w11, w12, w13, w14, w15] ∧ Post (some (ab_I r25)) [v26, w1, w2, w3, w4, w5, w6, w7, w8, w9, w10, w11, w12, w13, w14, w15])) ∧ ((a1 = 0 → (∃ mc17 ms18 : Nat, (kc + mc17 ≤ mc ∧ ks + ms18 ≤ ms) ∧ ∃ v19 : ab_Ob, ∃ v20 : ab_Ob, ∃ v21 : ab_Ob, ab_Calls d mc17 ms18 mX8_freshTree [ab_O 0] [w0, w1, w2, w3, w4, w5, w6, w7, w8, w9, w10, w11, w12, w13, w14, w15] (some (ab_O 7)) [v19, w1, w2, w3, w4, v20, w6, v21, w8, w9, w10, w11, w12, w13, w14, w15] ∧ (∃ r22 : Int, ab_Calls d 0 0 mX7_spansNotIn [ab_O 0, ab_O 1] [v21, w11] (some (ab_I r22)) [v21, w11] ∧ (∃ r23 : Int, ∃ v24 : ab_Ob, ab_Calls d 0 0 mX8_grant [ab_O 0, ab_I r22] [v19, w1, w2, w3, w4, v20, w6, v21, w8, w9, w10, w11, w12, w13, w14, w15] (some (ab_I r23)) [v24, w1, w2, w3, w4, v20, w6, v21, w8, w9, w10, w11, w12, w13, w14, w15] ∧ Post (some (ab_I r23)) [v24, w1, w2, w3, w4, v20, w6, v21, w8, w9, w10, w11, w12, w13, w14, w15])))) ∧ ((a1 = 1 → (∃ mc9 ms10 : Nat, (kc + mc9 ≤ mc ∧ ks + ms10 ≤ ms) ∧ ∃ v11 : ab_Ob, ∃ v12 : ab_Ob, ∃ v13 : ab_Ob, ab_Calls d mc9 ms10 mX8_freshTree [ab_O 0] [w0, w1, w2, w3, w4, w5, w6, w7, w8, w9, w10, w11, w12, w13, w14, w15] (some (ab_O 7)) [v11, w1, w2, w3, w4, v12, w6, v13, w8, w9, w10, w11, w12, w13, w14, w15] ∧ (∃ r14 : Int, ab_Calls d 0 0 mX7_headsUnlike [ab_O 0, ab_O 1] [v13, w11] (some (ab_I r14)) [v13, w11] ∧ (∃ r15 : Int, ∃ v16 : ab_Ob, ab_Calls d 0 0 mX8_grant [ab_O 0, ab_I r14] [v11, w1, w2, w3, w4, v12, w6, v13, w8, w9, w10, w11, w12, w13, w14, w15] (some (ab_I r15)) [v16, w1, w2, w3, w4, v12, w6, v13, w8, w9, w10, w11, w12, w13, w14, w15] ∧ Post (some (ab_I r15)) [v16, w1, w2, w3, w4, v12, w6, v13, w8, w9, w10, w11, w12, w13, w14, w15])))) ∧ ((a1 = 2 → (∃ mc1 ms2 : Nat, (kc + mc1 ≤ mc ∧ ks + ms2 ≤ ms) ∧ ∃ v3 : ab_Ob, ∃ v4 : ab_Ob, ∃ v5 : ab_Ob, ab_Calls d mc1 ms2 mX8_freshTree [ab_O 0] [w0, w1, w2, w3, w4, w5, w6, w7, w8, w9, w10, w11, w12, w13, w14, w15] (some (ab_O 7)) [v3, w1, w2, w3, w4, v4, w6, v5, w8, w9, w10, w11, w12, w13, w14, w15] ∧ (∃ r6 : Int, ab_Calls d 0 0 mX7_ranksUnlike [ab_O 0, ab_O 1, ab_I (w3.1 3)] [v5, w11] (some (ab_I r6)) [v5, w11] ∧ (∃ r7 : Int, ∃ v8 : ab_Ob, ab_Calls d 0 0 mX8_grant [ab_O 0, ab_I r6] [v3, w1, w2, w3, w4, v4, w6, v5, w8, w9, w10, w11, w12, w13, w14, w15] (some (ab_I r7)) [v8, w1, w2, w3, w4, v4, w6, v5, w8, w9, w10, w11, w12, w13, w14, w15] ∧ Post (some (ab_I r7)) [v8, w1, w2, w3, w4, v4, w6, v5, w8, w9, w10, w11, w12, w13, w14, w15])))) ∧ True))))) ∧ ((w0.1 12) = 0 → (∃ r27 : Int, ∃ v28 : ab_Ob, ab_Calls d 0 0 mX8_refuse [ab_O 0, ab_I 1] [w0, w1, w2, w3, w4, w5, w6, w7, w8, w9, w10, w11, w12, w13, w14, w15] (some (ab_I r27)) [v28, w1, w2, w3, w4, w5, w6, w7, w8, w9, w10, w11, w12, w13, w14, w15] ∧ Post (some (ab_I r27)) [v28, w1, w2, w3, w4, w5, w6, w7, w8, w9, w10, w11, w12, w13, w14, w15])))) :
    ab_J x 0 [some (ab_O 0), some (ab_I a1)] [] [w0, w1, w2, w3, w4, w5, w6, w7, w8, w9, w10, w11, w12, w13, w14, w15] kc ks := ab_go hx kX8_unlike.2 20 [] 0 h
def mX8_keptBreaks : ab_M := ((yX8_keptBreaks, cX8_keptBreaks, 1, (some .int)), ([8, 4, 5, 5, 0, 1, 2, 7, 6, 1, 7, 7, 7, 7, 3, 3], [(0, 0), (0, 1), (0, 2), (0, 3), (0, 4), (0, 5), (0, 6), (0, 7), (0, 8), (0, 9), (0, 10), (0, 11), (0, 12), (0, 13), (0, 14), (0, 15)], [true, false, false, false, false, false, false, false, false, false, false, false, false, false, false, false], false, false, 0), (false, 8, 0))
def rX8_keptBreaks : List ab_R := [(0, .aload_n 0, 1, 0, 0, 0, [], none),
  (1, .getfield 75, 3, 8, 12, 0, [], none),
  (4, .ifCond .eq 21, 3, 0, 0, 0, [25], none),
  (7, .aload_n 0, 1, 0, 0, 0, [], none),
  (8, .aload_n 0, 1, 0, 0, 0, [], none),
  (9, .getfield 72, 3, 8, 11, 0, [], none),
  (12, .aload_n 0, 1, 0, 0, 0, [], none),
  (13, .getfield 23, 3, 8, 2, 0, [], none),
  (16, .invokevirtual 349, 3, 0, 0, 0, [], some mX7_breaksOfAll),
  (19, .invokevirtual 124, 3, 0, 0, 0, [], some mX8_grant),
  (22, .goto 8, 3, 0, 0, 0, [30], none),
  (25, .aload_n 0, 1, 0, 0, 0, [], none),
  (26, .iconst 1, 1, 0, 0, 0, [], none),
  (27, .invokevirtual 101, 3, 0, 0, 0, [], some mX8_refuse),
  (30, .ireturn, 1, 0, 0, 0, [], none)]
set_option maxRecDepth 100000 in
theorem kX8_keptBreaks : ab_def_ok mX8_keptBreaks rX8_keptBreaks := ⟨ab_mok_of 1064 101 1062 1063 (by decide +kernel), [0, 403, 0, 0, 0, 402, 0, 393, 1065, 620, 0, 0, 0, 455, 0], by decide +kernel⟩
set_option maxRecDepth 100000 in
theorem vX8_keptBreaks_0 {x : ab_Cx} {d mc ms : Nat} {Post : Option ab_V → List ab_Ob → Prop} (hx : ab_At x mX8_keptBreaks d mc ms Post) (w0 w1 w2 w3 w4 w5 w6 w7 w8 w9 w10 w11 w12 w13 w14 w15 : ab_Ob) (kc ks : Nat)
    (h : (((w0.1 12) = 0 → (∃ r1 : Int, ∃ v2 : ab_Ob, ab_Calls d 0 0 mX8_refuse [ab_O 0, ab_I 1] [w0, w1, w2, w3, w4, w5, w6, w7, w8, w9, w10, w11, w12, w13, w14, w15] (some (ab_I r1)) [v2, w1, w2, w3, w4, w5, w6, w7, w8, w9, w10, w11, w12, w13, w14, w15] ∧ Post (some (ab_I r1)) [v2, w1, w2, w3, w4, w5, w6, w7, w8, w9, w10, w11, w12, w13, w14, w15])) ∧ (¬ (w0.1 12) = 0 → (∃ r3 : Int, ab_Calls d 0 0 mX7_breaksOfAll [ab_O 0, ab_O 1] [w11, w3] (some (ab_I r3)) [w11, w3] ∧ (∃ r4 : Int, ∃ v5 : ab_Ob, ab_Calls d 0 0 mX8_grant [ab_O 0, ab_I r3] [w0, w1, w2, w3, w4, w5, w6, w7, w8, w9, w10, w11, w12, w13, w14, w15] (some (ab_I r4)) [v5, w1, w2, w3, w4, w5, w6, w7, w8, w9, w10, w11, w12, w13, w14, w15] ∧ Post (some (ab_I r4)) [v5, w1, w2, w3, w4, w5, w6, w7, w8, w9, w10, w11, w12, w13, w14, w15]))))) :
    ab_J x 0 [some (ab_O 0)] [] [w0, w1, w2, w3, w4, w5, w6, w7, w8, w9, w10, w11, w12, w13, w14, w15] kc ks := ab_go hx kX8_keptBreaks.2 16 [] 0 h
def mX8_change : ab_M := ((yX8_change, cX8_change, 4, none), ([8, 4, 5, 5, 0, 1, 2, 7, 6, 1, 7, 7, 7, 7, 3, 3], [(0, 0), (0, 1), (0, 2), (0, 3), (0, 4), (0, 5), (0, 6), (0, 7), (0, 8), (0, 9), (0, 10), (0, 11), (0, 12), (0, 13), (0, 14), (0, 15)], [true, false, false, true, false, false, false, false, true, false, false, false, false, false, false, false], false, false, 0), (false, 8, 3))
def rX8_change : List ab_R := [(0, .iload_n 1, 1, 0, 0, 0, [], none),
  (1, .tableswitch 81 0 3 #[31, 44, 57, 70], 31, 0, 0, 0, [82, 32, 45, 58, 71], none),
  (32, .aload_n 0, 1, 0, 0, 0, [], none),
  (33, .getfield 23, 3, 8, 2, 0, [], none),
  (36, .getfield 155, 3, 5, 4, 0, [], none),
  (39, .iload_n 2, 1, 0, 0, 0, [], none),
  (40, .iload_n 3, 1, 0, 0, 0, [], none),
  (41, .iastore, 1, 0, 0, 0, [], none),
  (42, .goto 48, 3, 0, 0, 0, [90], none),
  (45, .aload_n 0, 1, 0, 0, 0, [], none),
  (46, .getfield 23, 3, 8, 2, 0, [], none),
  (49, .getfield 159, 3, 5, 5, 0, [], none),
  (52, .iload_n 2, 1, 0, 0, 0, [], none),
  (53, .iload_n 3, 1, 0, 0, 0, [], none),
  (54, .iastore, 1, 0, 0, 0, [], none),
  (55, .goto 35, 3, 0, 0, 0, [90], none),
  (58, .aload_n 0, 1, 0, 0, 0, [], none),
  (59, .getfield 23, 3, 8, 2, 0, [], none),
  (62, .getfield 181, 3, 5, 6, 0, [], none),
  (65, .iload_n 2, 1, 0, 0, 0, [], none),
  (66, .iload_n 3, 1, 0, 0, 0, [], none),
  (67, .iastore, 1, 0, 0, 0, [], none),
  (68, .goto 22, 3, 0, 0, 0, [90], none),
  (71, .aload_n 0, 1, 0, 0, 0, [], none),
  (72, .getfield 23, 3, 8, 2, 0, [], none),
  (75, .iload_n 3, 1, 0, 0, 0, [], none),
  (76, .putfield 140, 3, 5, 2, 0, [], none),
  (79, .goto 11, 3, 0, 0, 0, [90], none),
  (82, .aload_n 0, 1, 0, 0, 0, [], none),
  (83, .getfield 23, 3, 8, 2, 0, [], none),
  (86, .iload_n 3, 1, 0, 0, 0, [], none),
  (87, .invokevirtual 389, 3, 0, 0, 0, [], some mX5_moveAll),
  (90, .aload_n 0, 1, 0, 0, 0, [], none),
  (91, .getfield 23, 3, 8, 2, 0, [], none),
  (94, .invokevirtual 392, 3, 0, 0, 0, [], some mX5_derive),
  (97, .aload_n 0, 1, 0, 0, 0, [], none),
  (98, .invokevirtual 118, 3, 0, 0, 0, [], some mX8_renew),
  (101, .return_, 1, 0, 0, 0, [], none)]
set_option maxRecDepth 100000 in
theorem kX8_change : ab_def_ok mX8_change rX8_change := ⟨ab_mok_of 1089 101 1088 44 (by decide +kernel), [0, 0, 0, 393, 156, 0, 0, 0, 0, 0, 393, 158, 0, 0, 0, 0, 0, 393, 162, 0, 0, 0, 0, 0, 393, 0, 147, 0, 0, 393, 0, 1090, 0, 393, 1094, 0, 612, 0], by decide +kernel⟩
set_option maxRecDepth 100000 in
theorem vX8_change_0 {x : ab_Cx} {d mc ms : Nat} {Post : Option ab_V → List ab_Ob → Prop} (hx : ab_At x mX8_change d mc ms Post) (a1 a2 a3 : Int) (w0 w1 w2 w3 w4 w5 w6 w7 w8 w9 w10 w11 w12 w13 w14 w15 : ab_Ob) (kc ks : Nat)
    (h : ((a1 < 0 ∨ 3 < a1 → (∃ v13 : ab_Ob, ab_Calls d 0 0 mX5_moveAll [ab_O 0, ab_I a3] [w3] none [v13] ∧ (∃ v14 : ab_Ob, ab_Calls d 0 0 mX5_derive [ab_O 0] [v13] none [v14] ∧ (∃ v15 : ab_Ob, ∃ v16 : ab_Ob, ab_Calls d 0 0 mX8_renew [ab_O 0] [w0, w1, w2, v14, w4, w5, w6, w7, w8, w9, w10, w11, w12, w13, w14, w15] none [v15, w1, w2, v14, w4, w5, w6, w7, v16, w9, w10, w11, w12, w13, w14, w15] ∧ Post none [v15, w1, w2, v14, w4, w5, w6, w7, v16, w9, w10, w11, w12, w13, w14, w15])))) ∧ ((a1 = 0 → ((0 ≤ a2 ∧ a2 < (w3.2 4).1) ∧ (∃ v10 : ab_Ob, ab_Calls d 0 0 mX5_derive [ab_O 0] [(ab_pa w3 4 a2 a3)] none [v10] ∧ (∃ v11 : ab_Ob, ∃ v12 : ab_Ob, ab_Calls d 0 0 mX8_renew [ab_O 0] [w0, w1, w2, v10, w4, w5, w6, w7, w8, w9, w10, w11, w12, w13, w14, w15] none [v11, w1, w2, v10, w4, w5, w6, w7, v12, w9, w10, w11, w12, w13, w14, w15] ∧ Post none [v11, w1, w2, v10, w4, w5, w6, w7, v12, w9, w10, w11, w12, w13, w14, w15])))) ∧ ((a1 = 1 → ((0 ≤ a2 ∧ a2 < (w3.2 5).1) ∧ (∃ v7 : ab_Ob, ab_Calls d 0 0 mX5_derive [ab_O 0] [(ab_pa w3 5 a2 a3)] none [v7] ∧ (∃ v8 : ab_Ob, ∃ v9 : ab_Ob, ab_Calls d 0 0 mX8_renew [ab_O 0] [w0, w1, w2, v7, w4, w5, w6, w7, w8, w9, w10, w11, w12, w13, w14, w15] none [v8, w1, w2, v7, w4, w5, w6, w7, v9, w9, w10, w11, w12, w13, w14, w15] ∧ Post none [v8, w1, w2, v7, w4, w5, w6, w7, v9, w9, w10, w11, w12, w13, w14, w15])))) ∧ ((a1 = 2 → ((0 ≤ a2 ∧ a2 < (w3.2 6).1) ∧ (∃ v4 : ab_Ob, ab_Calls d 0 0 mX5_derive [ab_O 0] [(ab_pa w3 6 a2 a3)] none [v4] ∧ (∃ v5 : ab_Ob, ∃ v6 : ab_Ob, ab_Calls d 0 0 mX8_renew [ab_O 0] [w0, w1, w2, v4, w4, w5, w6, w7, w8, w9, w10, w11, w12, w13, w14, w15] none [v5, w1, w2, v4, w4, w5, w6, w7, v6, w9, w10, w11, w12, w13, w14, w15] ∧ Post none [v5, w1, w2, v4, w4, w5, w6, w7, v6, w9, w10, w11, w12, w13, w14, w15])))) ∧ ((a1 = 3 → (∃ v1 : ab_Ob, ab_Calls d 0 0 mX5_derive [ab_O 0] [(ab_pf w3 2 a3)] none [v1] ∧ (∃ v2 : ab_Ob, ∃ v3 : ab_Ob, ab_Calls d 0 0 mX8_renew [ab_O 0] [w0, w1, w2, v1, w4, w5, w6, w7, w8, w9, w10, w11, w12, w13, w14, w15] none [v2, w1, w2, v1, w4, w5, w6, w7, v3, w9, w10, w11, w12, w13, w14, w15] ∧ Post none [v2, w1, w2, v1, w4, w5, w6, w7, v3, w9, w10, w11, w12, w13, w14, w15]))) ∧ True)))))) :
    ab_J x 0 [some (ab_O 0), some (ab_I a1), some (ab_I a2), some (ab_I a3)] [] [w0, w1, w2, w3, w4, w5, w6, w7, w8, w9, w10, w11, w12, w13, w14, w15] kc ks := ab_go hx kX8_change.2 19 [] 0 h
def mX8_act : ab_M := ((yX8_act, cX8_act, 5, (some .int)), ([8, 4, 5, 5, 0, 1, 2, 7, 6, 1, 7, 7, 7, 7, 3, 3], [(0, 0), (0, 1), (0, 2), (0, 3), (0, 4), (0, 5), (0, 6), (0, 7), (0, 8), (0, 9), (0, 10), (0, 11), (0, 12), (0, 13), (0, 14), (0, 15)], [true, false, false, true, true, false, false, false, true, false, false, false, false, false, false, false], false, false, 0), (false, 8, 4))
def rX8_act : List ab_R := [(0, .aload_n 0, 1, 0, 0, 0, [], none),
  (1, .getfield 30, 3, 8, 3, 0, [], none),
  (4, .iload_n 1, 1, 0, 0, 0, [], none),
  (5, .iload_n 2, 1, 0, 0, 0, [], none),
  (6, .iload_n 3, 1, 0, 0, 0, [], none),
  (7, .invokevirtual 386, 3, 0, 0, 0, [], some mX0_add),
  (10, .aload_n 0, 1, 0, 0, 0, [], none),
  (11, .iload_n 1, 1, 0, 0, 0, [], none),
  (12, .iload_n 2, 1, 0, 0, 0, [], none),
  (13, .iload 4, 2, 0, 0, 0, [], none),
  (15, .invokevirtual 369, 3, 0, 0, 0, [], some mX8_change),
  (18, .aload_n 0, 1, 0, 0, 0, [], none),
  (19, .iload_n 3, 1, 0, 0, 0, [], none),
  (20, .invokevirtual 124, 3, 0, 0, 0, [], some mX8_grant),
  (23, .ireturn, 1, 0, 0, 0, [], none)]
set_option maxRecDepth 100000 in
theorem kX8_act : ab_def_ok mX8_act rX8_act := ⟨ab_mok_of 1077 101 1076 42 (by decide +kernel), [0, 394, 0, 0, 0, 1078, 0, 0, 0, 0, 1086, 0, 0, 620, 0], by decide +kernel⟩
set_option maxRecDepth 100000 in
theorem vX8_act_0 {x : ab_Cx} {d mc ms : Nat} {Post : Option ab_V → List ab_Ob → Prop} (hx : ab_At x mX8_act d mc ms Post) (a1 a2 a3 a4 : Int) (w0 w1 w2 w3 w4 w5 w6 w7 w8 w9 w10 w11 w12 w13 w14 w15 : ab_Ob) (kc ks : Nat)
    (h : (∃ v1 : ab_Ob, ab_Calls d 0 0 mX0_add [ab_O 0, ab_I a1, ab_I a2, ab_I a3] [w4] none [v1] ∧ (∃ v2 : ab_Ob, ∃ v3 : ab_Ob, ∃ v4 : ab_Ob, ab_Calls d 0 0 mX8_change [ab_O 0, ab_I a1, ab_I a2, ab_I a4] [w0, w1, w2, w3, v1, w5, w6, w7, w8, w9, w10, w11, w12, w13, w14, w15] none [v2, w1, w2, v3, v1, w5, w6, w7, v4, w9, w10, w11, w12, w13, w14, w15] ∧ (∃ r5 : Int, ∃ v6 : ab_Ob, ab_Calls d 0 0 mX8_grant [ab_O 0, ab_I a3] [v2, w1, w2, v3, v1, w5, w6, w7, v4, w9, w10, w11, w12, w13, w14, w15] (some (ab_I r5)) [v6, w1, w2, v3, v1, w5, w6, w7, v4, w9, w10, w11, w12, w13, w14, w15] ∧ Post (some (ab_I r5)) [v6, w1, w2, v3, v1, w5, w6, w7, v4, w9, w10, w11, w12, w13, w14, w15])))) :
    ab_J x 0 [some (ab_O 0), some (ab_I a1), some (ab_I a2), some (ab_I a3), some (ab_I a4)] [] [w0, w1, w2, w3, w4, w5, w6, w7, w8, w9, w10, w11, w12, w13, w14, w15] kc ks := ab_go hx kX8_act.2 19 [] 0 h
def mX8_pitch : ab_M := ((yX8_pitch, cX8_pitch, 3, (some .int)), ([8, 4, 5, 5, 0, 1, 2, 7, 6, 1, 7, 7, 7, 7, 3, 3], [(0, 0), (0, 1), (0, 2), (0, 3), (0, 4), (0, 5), (0, 6), (0, 7), (0, 8), (0, 9), (0, 10), (0, 11), (0, 12), (0, 13), (0, 14), (0, 15)], [true, false, false, true, true, false, false, false, true, false, false, false, false, false, false, false], false, false, 0), (false, 8, 2))
def rX8_pitch : List ab_R := [(0, .aload_n 0, 1, 0, 0, 0, [], none),
  (1, .iload_n 1, 1, 0, 0, 0, [], none),
  (2, .invokevirtual 151, 3, 0, 0, 0, [], some mX8_hasNote),
  (5, .ifCond .ne 9, 3, 0, 0, 0, [14], none),
  (8, .aload_n 0, 1, 0, 0, 0, [], none),
  (9, .iconst 1, 1, 0, 0, 0, [], none),
  (10, .invokevirtual 101, 3, 0, 0, 0, [], some mX8_refuse),
  (13, .ireturn, 1, 0, 0, 0, [], none),
  (14, .iload_n 2, 1, 0, 0, 0, [], none),
  (15, .ifCond .lt 9, 3, 0, 0, 0, [24], none),
  (18, .iload_n 2, 1, 0, 0, 0, [], none),
  (19, .bipush 99, 2, 0, 0, 0, [], none),
  (21, .if_icmp .le 9, 3, 0, 0, 0, [30], none),
  (24, .aload_n 0, 1, 0, 0, 0, [], none),
  (25, .iconst 2, 1, 0, 0, 0, [], none),
  (26, .invokevirtual 101, 3, 0, 0, 0, [], some mX8_refuse),
  (29, .ireturn, 1, 0, 0, 0, [], none),
  (30, .aload_n 0, 1, 0, 0, 0, [], none),
  (31, .iconst 0, 1, 0, 0, 0, [], none),
  (32, .iload_n 1, 1, 0, 0, 0, [], none),
  (33, .aload_n 0, 1, 0, 0, 0, [], none),
  (34, .getfield 23, 3, 8, 2, 0, [], none),
  (37, .getfield 155, 3, 5, 4, 0, [], none),
  (40, .iload_n 1, 1, 0, 0, 0, [], none),
  (41, .iaload, 1, 0, 0, 0, [], none),
  (42, .iload_n 2, 1, 0, 0, 0, [], none),
  (43, .invokevirtual 353, 3, 0, 0, 0, [], some mX8_act),
  (46, .ireturn, 1, 0, 0, 0, [], none)]
set_option maxRecDepth 100000 in
theorem kX8_pitch : ab_def_ok mX8_pitch rX8_pitch := ⟨ab_mok_of 1073 101 1071 1072 (by decide +kernel), [0, 0, 652, 0, 0, 0, 455, 0, 0, 0, 0, 0, 0, 0, 0, 455, 0, 0, 0, 0, 0, 393, 156, 0, 0, 0, 1074, 0], by decide +kernel⟩
set_option maxRecDepth 100000 in
theorem vX8_pitch_0 {x : ab_Cx} {d mc ms : Nat} {Post : Option ab_V → List ab_Ob → Prop} (hx : ab_At x mX8_pitch d mc ms Post) (a1 a2 : Int) (w0 w1 w2 w3 w4 w5 w6 w7 w8 w9 w10 w11 w12 w13 w14 w15 : ab_Ob) (kc ks : Nat)
    (h : (∃ r1 : Int, ab_Calls d 0 0 mX8_hasNote [ab_O 0, ab_I a1] [w0, w1, w2, w3, w4, w5, w6, w7, w8, w9, w10, w11, w12, w13, w14, w15] (some (ab_I r1)) [w0, w1, w2, w3, w4, w5, w6, w7, w8, w9, w10, w11, w12, w13, w14, w15] ∧ ((¬ r1 = 0 → ((a2 < 0 → (∃ r2 : Int, ∃ v3 : ab_Ob, ab_Calls d 0 0 mX8_refuse [ab_O 0, ab_I 2] [w0, w1, w2, w3, w4, w5, w6, w7, w8, w9, w10, w11, w12, w13, w14, w15] (some (ab_I r2)) [v3, w1, w2, w3, w4, w5, w6, w7, w8, w9, w10, w11, w12, w13, w14, w15] ∧ Post (some (ab_I r2)) [v3, w1, w2, w3, w4, w5, w6, w7, w8, w9, w10, w11, w12, w13, w14, w15])) ∧ (¬ a2 < 0 → ((a2 ≤ 99 → ((0 ≤ a1 ∧ a1 < (w3.2 4).1) ∧ (∃ r4 : Int, ∃ v5 : ab_Ob, ∃ v6 : ab_Ob, ∃ v7 : ab_Ob, ∃ v8 : ab_Ob, ab_Calls d 0 0 mX8_act [ab_O 0, ab_I 0, ab_I a1, ab_I ((w3.2 4).2 a1), ab_I a2] [w0, w1, w2, w3, w4, w5, w6, w7, w8, w9, w10, w11, w12, w13, w14, w15] (some (ab_I r4)) [v5, w1, w2, v6, v7, w5, w6, w7, v8, w9, w10, w11, w12, w13, w14, w15] ∧ Post (some (ab_I r4)) [v5, w1, w2, v6, v7, w5, w6, w7, v8, w9, w10, w11, w12, w13, w14, w15]))) ∧ (¬ a2 ≤ 99 → (∃ r9 : Int, ∃ v10 : ab_Ob, ab_Calls d 0 0 mX8_refuse [ab_O 0, ab_I 2] [w0, w1, w2, w3, w4, w5, w6, w7, w8, w9, w10, w11, w12, w13, w14, w15] (some (ab_I r9)) [v10, w1, w2, w3, w4, w5, w6, w7, w8, w9, w10, w11, w12, w13, w14, w15] ∧ Post (some (ab_I r9)) [v10, w1, w2, w3, w4, w5, w6, w7, w8, w9, w10, w11, w12, w13, w14, w15])))))) ∧ (r1 = 0 → (∃ r11 : Int, ∃ v12 : ab_Ob, ab_Calls d 0 0 mX8_refuse [ab_O 0, ab_I 1] [w0, w1, w2, w3, w4, w5, w6, w7, w8, w9, w10, w11, w12, w13, w14, w15] (some (ab_I r11)) [v12, w1, w2, w3, w4, w5, w6, w7, w8, w9, w10, w11, w12, w13, w14, w15] ∧ Post (some (ab_I r11)) [v12, w1, w2, w3, w4, w5, w6, w7, w8, w9, w10, w11, w12, w13, w14, w15]))))) :
    ab_J x 0 [some (ab_O 0), some (ab_I a1), some (ab_I a2)] [] [w0, w1, w2, w3, w4, w5, w6, w7, w8, w9, w10, w11, w12, w13, w14, w15] kc ks := ab_go hx kX8_pitch.2 24 [] 0 h
def mX8_last : ab_M := ((yX8_last, cX8_last, 3, (some .int)), ([8, 4, 5, 5, 0, 1, 2, 7, 6, 1, 7, 7, 7, 7, 3, 3], [(0, 0), (0, 1), (0, 2), (0, 3), (0, 4), (0, 5), (0, 6), (0, 7), (0, 8), (0, 9), (0, 10), (0, 11), (0, 12), (0, 13), (0, 14), (0, 15)], [true, false, false, true, true, false, false, false, true, false, false, false, false, false, false, false], false, false, 0), (false, 8, 2))
def rX8_last : List ab_R := [(0, .aload_n 0, 1, 0, 0, 0, [], none),
  (1, .iload_n 1, 1, 0, 0, 0, [], none),
  (2, .invokevirtual 151, 3, 0, 0, 0, [], some mX8_hasNote),
  (5, .ifCond .ne 9, 3, 0, 0, 0, [14], none),
  (8, .aload_n 0, 1, 0, 0, 0, [], none),
  (9, .iconst 1, 1, 0, 0, 0, [], none),
  (10, .invokevirtual 101, 3, 0, 0, 0, [], some mX8_refuse),
  (13, .ireturn, 1, 0, 0, 0, [], none),
  (14, .iload_n 2, 1, 0, 0, 0, [], none),
  (15, .iconst 1, 1, 0, 0, 0, [], none),
  (16, .if_icmp .lt 9, 3, 0, 0, 0, [25], none),
  (19, .iload_n 2, 1, 0, 0, 0, [], none),
  (20, .bipush 64, 2, 0, 0, 0, [], none),
  (22, .if_icmp .le 9, 3, 0, 0, 0, [31], none),
  (25, .aload_n 0, 1, 0, 0, 0, [], none),
  (26, .iconst 2, 1, 0, 0, 0, [], none),
  (27, .invokevirtual 101, 3, 0, 0, 0, [], some mX8_refuse),
  (30, .ireturn, 1, 0, 0, 0, [], none),
  (31, .aload_n 0, 1, 0, 0, 0, [], none),
  (32, .iconst 1, 1, 0, 0, 0, [], none),
  (33, .iload_n 1, 1, 0, 0, 0, [], none),
  (34, .aload_n 0, 1, 0, 0, 0, [], none),
  (35, .getfield 23, 3, 8, 2, 0, [], none),
  (38, .getfield 159, 3, 5, 5, 0, [], none),
  (41, .iload_n 1, 1, 0, 0, 0, [], none),
  (42, .iaload, 1, 0, 0, 0, [], none),
  (43, .iload_n 2, 1, 0, 0, 0, [], none),
  (44, .invokevirtual 353, 3, 0, 0, 0, [], some mX8_act),
  (47, .ireturn, 1, 0, 0, 0, [], none)]
set_option maxRecDepth 100000 in
theorem kX8_last : ab_def_ok mX8_last rX8_last := ⟨ab_mok_of 1098 101 1096 1097 (by decide +kernel), [0, 0, 652, 0, 0, 0, 455, 0, 0, 0, 0, 0, 0, 0, 0, 0, 455, 0, 0, 0, 0, 0, 393, 158, 0, 0, 0, 1074, 0], by decide +kernel⟩
set_option maxRecDepth 100000 in
theorem vX8_last_0 {x : ab_Cx} {d mc ms : Nat} {Post : Option ab_V → List ab_Ob → Prop} (hx : ab_At x mX8_last d mc ms Post) (a1 a2 : Int) (w0 w1 w2 w3 w4 w5 w6 w7 w8 w9 w10 w11 w12 w13 w14 w15 : ab_Ob) (kc ks : Nat)
    (h : (∃ r1 : Int, ab_Calls d 0 0 mX8_hasNote [ab_O 0, ab_I a1] [w0, w1, w2, w3, w4, w5, w6, w7, w8, w9, w10, w11, w12, w13, w14, w15] (some (ab_I r1)) [w0, w1, w2, w3, w4, w5, w6, w7, w8, w9, w10, w11, w12, w13, w14, w15] ∧ ((¬ r1 = 0 → ((a2 < 1 → (∃ r2 : Int, ∃ v3 : ab_Ob, ab_Calls d 0 0 mX8_refuse [ab_O 0, ab_I 2] [w0, w1, w2, w3, w4, w5, w6, w7, w8, w9, w10, w11, w12, w13, w14, w15] (some (ab_I r2)) [v3, w1, w2, w3, w4, w5, w6, w7, w8, w9, w10, w11, w12, w13, w14, w15] ∧ Post (some (ab_I r2)) [v3, w1, w2, w3, w4, w5, w6, w7, w8, w9, w10, w11, w12, w13, w14, w15])) ∧ (¬ a2 < 1 → ((a2 ≤ 64 → ((0 ≤ a1 ∧ a1 < (w3.2 5).1) ∧ (∃ r4 : Int, ∃ v5 : ab_Ob, ∃ v6 : ab_Ob, ∃ v7 : ab_Ob, ∃ v8 : ab_Ob, ab_Calls d 0 0 mX8_act [ab_O 0, ab_I 1, ab_I a1, ab_I ((w3.2 5).2 a1), ab_I a2] [w0, w1, w2, w3, w4, w5, w6, w7, w8, w9, w10, w11, w12, w13, w14, w15] (some (ab_I r4)) [v5, w1, w2, v6, v7, w5, w6, w7, v8, w9, w10, w11, w12, w13, w14, w15] ∧ Post (some (ab_I r4)) [v5, w1, w2, v6, v7, w5, w6, w7, v8, w9, w10, w11, w12, w13, w14, w15]))) ∧ (¬ a2 ≤ 64 → (∃ r9 : Int, ∃ v10 : ab_Ob, ab_Calls d 0 0 mX8_refuse [ab_O 0, ab_I 2] [w0, w1, w2, w3, w4, w5, w6, w7, w8, w9, w10, w11, w12, w13, w14, w15] (some (ab_I r9)) [v10, w1, w2, w3, w4, w5, w6, w7, w8, w9, w10, w11, w12, w13, w14, w15] ∧ Post (some (ab_I r9)) [v10, w1, w2, w3, w4, w5, w6, w7, w8, w9, w10, w11, w12, w13, w14, w15])))))) ∧ (r1 = 0 → (∃ r11 : Int, ∃ v12 : ab_Ob, ab_Calls d 0 0 mX8_refuse [ab_O 0, ab_I 1] [w0, w1, w2, w3, w4, w5, w6, w7, w8, w9, w10, w11, w12, w13, w14, w15] (some (ab_I r11)) [v12, w1, w2, w3, w4, w5, w6, w7, w8, w9, w10, w11, w12, w13, w14, w15] ∧ Post (some (ab_I r11)) [v12, w1, w2, w3, w4, w5, w6, w7, w8, w9, w10, w11, w12, w13, w14, w15]))))) :
    ab_J x 0 [some (ab_O 0), some (ab_I a1), some (ab_I a2)] [] [w0, w1, w2, w3, w4, w5, w6, w7, w8, w9, w10, w11, w12, w13, w14, w15] kc ks := ab_go hx kX8_last.2 25 [] 0 h
def mX8_weigh : ab_M := ((yX8_weigh, cX8_weigh, 3, (some .int)), ([8, 4, 5, 5, 0, 1, 2, 7, 6, 1, 7, 7, 7, 7, 3, 3], [(0, 0), (0, 1), (0, 2), (0, 3), (0, 4), (0, 5), (0, 6), (0, 7), (0, 8), (0, 9), (0, 10), (0, 11), (0, 12), (0, 13), (0, 14), (0, 15)], [true, false, false, true, true, false, false, false, true, false, false, false, false, false, false, false], false, false, 0), (false, 8, 2))
def rX8_weigh : List ab_R := [(0, .aload_n 0, 1, 0, 0, 0, [], none),
  (1, .iload_n 1, 1, 0, 0, 0, [], none),
  (2, .invokevirtual 178, 3, 0, 0, 0, [], some mX8_hasRule),
  (5, .ifCond .ne 9, 3, 0, 0, 0, [14], none),
  (8, .aload_n 0, 1, 0, 0, 0, [], none),
  (9, .iconst 1, 1, 0, 0, 0, [], none),
  (10, .invokevirtual 101, 3, 0, 0, 0, [], some mX8_refuse),
  (13, .ireturn, 1, 0, 0, 0, [], none),
  (14, .iload_n 2, 1, 0, 0, 0, [], none),
  (15, .ifCond .lt 9, 3, 0, 0, 0, [24], none),
  (18, .iload_n 2, 1, 0, 0, 0, [], none),
  (19, .bipush 99, 2, 0, 0, 0, [], none),
  (21, .if_icmp .le 9, 3, 0, 0, 0, [30], none),
  (24, .aload_n 0, 1, 0, 0, 0, [], none),
  (25, .iconst 2, 1, 0, 0, 0, [], none),
  (26, .invokevirtual 101, 3, 0, 0, 0, [], some mX8_refuse),
  (29, .ireturn, 1, 0, 0, 0, [], none),
  (30, .aload_n 0, 1, 0, 0, 0, [], none),
  (31, .iconst 2, 1, 0, 0, 0, [], none),
  (32, .iload_n 1, 1, 0, 0, 0, [], none),
  (33, .aload_n 0, 1, 0, 0, 0, [], none),
  (34, .getfield 23, 3, 8, 2, 0, [], none),
  (37, .getfield 181, 3, 5, 6, 0, [], none),
  (40, .iload_n 1, 1, 0, 0, 0, [], none),
  (41, .iaload, 1, 0, 0, 0, [], none),
  (42, .iload_n 2, 1, 0, 0, 0, [], none),
  (43, .invokevirtual 353, 3, 0, 0, 0, [], some mX8_act),
  (46, .ireturn, 1, 0, 0, 0, [], none)]
set_option maxRecDepth 100000 in
theorem kX8_weigh : ab_def_ok mX8_weigh rX8_weigh := ⟨ab_mok_of 1102 101 1100 1101 (by decide +kernel), [0, 0, 743, 0, 0, 0, 455, 0, 0, 0, 0, 0, 0, 0, 0, 455, 0, 0, 0, 0, 0, 393, 162, 0, 0, 0, 1074, 0], by decide +kernel⟩
set_option maxRecDepth 100000 in
theorem vX8_weigh_0 {x : ab_Cx} {d mc ms : Nat} {Post : Option ab_V → List ab_Ob → Prop} (hx : ab_At x mX8_weigh d mc ms Post) (a1 a2 : Int) (w0 w1 w2 w3 w4 w5 w6 w7 w8 w9 w10 w11 w12 w13 w14 w15 : ab_Ob) (kc ks : Nat)
    (h : (∃ r1 : Int, ab_Calls d 0 0 mX8_hasRule [ab_O 0, ab_I a1] [w0, w1, w2, w3, w4, w5, w6, w7, w8, w9, w10, w11, w12, w13, w14, w15] (some (ab_I r1)) [w0, w1, w2, w3, w4, w5, w6, w7, w8, w9, w10, w11, w12, w13, w14, w15] ∧ ((¬ r1 = 0 → ((a2 < 0 → (∃ r2 : Int, ∃ v3 : ab_Ob, ab_Calls d 0 0 mX8_refuse [ab_O 0, ab_I 2] [w0, w1, w2, w3, w4, w5, w6, w7, w8, w9, w10, w11, w12, w13, w14, w15] (some (ab_I r2)) [v3, w1, w2, w3, w4, w5, w6, w7, w8, w9, w10, w11, w12, w13, w14, w15] ∧ Post (some (ab_I r2)) [v3, w1, w2, w3, w4, w5, w6, w7, w8, w9, w10, w11, w12, w13, w14, w15])) ∧ (¬ a2 < 0 → ((a2 ≤ 99 → ((0 ≤ a1 ∧ a1 < (w3.2 6).1) ∧ (∃ r4 : Int, ∃ v5 : ab_Ob, ∃ v6 : ab_Ob, ∃ v7 : ab_Ob, ∃ v8 : ab_Ob, ab_Calls d 0 0 mX8_act [ab_O 0, ab_I 2, ab_I a1, ab_I ((w3.2 6).2 a1), ab_I a2] [w0, w1, w2, w3, w4, w5, w6, w7, w8, w9, w10, w11, w12, w13, w14, w15] (some (ab_I r4)) [v5, w1, w2, v6, v7, w5, w6, w7, v8, w9, w10, w11, w12, w13, w14, w15] ∧ Post (some (ab_I r4)) [v5, w1, w2, v6, v7, w5, w6, w7, v8, w9, w10, w11, w12, w13, w14, w15]))) ∧ (¬ a2 ≤ 99 → (∃ r9 : Int, ∃ v10 : ab_Ob, ab_Calls d 0 0 mX8_refuse [ab_O 0, ab_I 2] [w0, w1, w2, w3, w4, w5, w6, w7, w8, w9, w10, w11, w12, w13, w14, w15] (some (ab_I r9)) [v10, w1, w2, w3, w4, w5, w6, w7, w8, w9, w10, w11, w12, w13, w14, w15] ∧ Post (some (ab_I r9)) [v10, w1, w2, w3, w4, w5, w6, w7, w8, w9, w10, w11, w12, w13, w14, w15])))))) ∧ (r1 = 0 → (∃ r11 : Int, ∃ v12 : ab_Ob, ab_Calls d 0 0 mX8_refuse [ab_O 0, ab_I 1] [w0, w1, w2, w3, w4, w5, w6, w7, w8, w9, w10, w11, w12, w13, w14, w15] (some (ab_I r11)) [v12, w1, w2, w3, w4, w5, w6, w7, w8, w9, w10, w11, w12, w13, w14, w15] ∧ Post (some (ab_I r11)) [v12, w1, w2, w3, w4, w5, w6, w7, w8, w9, w10, w11, w12, w13, w14, w15]))))) :
    ab_J x 0 [some (ab_O 0), some (ab_I a1), some (ab_I a2)] [] [w0, w1, w2, w3, w4, w5, w6, w7, w8, w9, w10, w11, w12, w13, w14, w15] kc ks := ab_go hx kX8_weigh.2 24 [] 0 h
def mX8_key : ab_M := ((yX8_key, cX8_key, 2, (some .int)), ([8, 4, 5, 5, 0, 1, 2, 7, 6, 1, 7, 7, 7, 7, 3, 3], [(0, 0), (0, 1), (0, 2), (0, 3), (0, 4), (0, 5), (0, 6), (0, 7), (0, 8), (0, 9), (0, 10), (0, 11), (0, 12), (0, 13), (0, 14), (0, 15)], [true, false, false, true, true, false, false, false, true, false, false, false, false, false, false, false], false, false, 0), (false, 8, 1))
def rX8_key : List ab_R := [(0, .aload_n 0, 1, 0, 0, 0, [], none),
  (1, .invokevirtual 130, 3, 0, 0, 0, [], some mX8_hasPiece),
  (4, .ifCond .ne 9, 3, 0, 0, 0, [13], none),
  (7, .aload_n 0, 1, 0, 0, 0, [], none),
  (8, .iconst 1, 1, 0, 0, 0, [], none),
  (9, .invokevirtual 101, 3, 0, 0, 0, [], some mX8_refuse),
  (12, .ireturn, 1, 0, 0, 0, [], none),
  (13, .iload_n 1, 1, 0, 0, 0, [], none),
  (14, .ifCond .lt 9, 3, 0, 0, 0, [23], none),
  (17, .iload_n 1, 1, 0, 0, 0, [], none),
  (18, .bipush 11, 2, 0, 0, 0, [], none),
  (20, .if_icmp .le 9, 3, 0, 0, 0, [29], none),
  (23, .aload_n 0, 1, 0, 0, 0, [], none),
  (24, .iconst 2, 1, 0, 0, 0, [], none),
  (25, .invokevirtual 101, 3, 0, 0, 0, [], some mX8_refuse),
  (28, .ireturn, 1, 0, 0, 0, [], none),
  (29, .aload_n 0, 1, 0, 0, 0, [], none),
  (30, .iconst 3, 1, 0, 0, 0, [], none),
  (31, .iconst 0, 1, 0, 0, 0, [], none),
  (32, .aload_n 0, 1, 0, 0, 0, [], none),
  (33, .getfield 23, 3, 8, 2, 0, [], none),
  (36, .getfield 140, 3, 5, 2, 0, [], none),
  (39, .iload_n 1, 1, 0, 0, 0, [], none),
  (40, .invokevirtual 353, 3, 0, 0, 0, [], some mX8_act),
  (43, .ireturn, 1, 0, 0, 0, [], none)]
set_option maxRecDepth 100000 in
theorem kX8_key : ab_def_ok mX8_key rX8_key := ⟨ab_mok_of 1106 101 1104 1105 (by decide +kernel), [0, 636, 0, 0, 0, 455, 0, 0, 0, 0, 0, 0, 0, 0, 455, 0, 0, 0, 0, 0, 393, 147, 0, 1074, 0], by decide +kernel⟩
set_option maxRecDepth 100000 in
theorem vX8_key_0 {x : ab_Cx} {d mc ms : Nat} {Post : Option ab_V → List ab_Ob → Prop} (hx : ab_At x mX8_key d mc ms Post) (a1 : Int) (w0 w1 w2 w3 w4 w5 w6 w7 w8 w9 w10 w11 w12 w13 w14 w15 : ab_Ob) (kc ks : Nat)
    (h : (∃ r1 : Int, ab_Calls d 0 0 mX8_hasPiece [ab_O 0] [w0, w1, w2, w3, w4, w5, w6, w7, w8, w9, w10, w11, w12, w13, w14, w15] (some (ab_I r1)) [w0, w1, w2, w3, w4, w5, w6, w7, w8, w9, w10, w11, w12, w13, w14, w15] ∧ ((¬ r1 = 0 → ((a1 < 0 → (∃ r2 : Int, ∃ v3 : ab_Ob, ab_Calls d 0 0 mX8_refuse [ab_O 0, ab_I 2] [w0, w1, w2, w3, w4, w5, w6, w7, w8, w9, w10, w11, w12, w13, w14, w15] (some (ab_I r2)) [v3, w1, w2, w3, w4, w5, w6, w7, w8, w9, w10, w11, w12, w13, w14, w15] ∧ Post (some (ab_I r2)) [v3, w1, w2, w3, w4, w5, w6, w7, w8, w9, w10, w11, w12, w13, w14, w15])) ∧ (¬ a1 < 0 → ((a1 ≤ 11 → (∃ r4 : Int, ∃ v5 : ab_Ob, ∃ v6 : ab_Ob, ∃ v7 : ab_Ob, ∃ v8 : ab_Ob, ab_Calls d 0 0 mX8_act [ab_O 0, ab_I 3, ab_I 0, ab_I (w3.1 2), ab_I a1] [w0, w1, w2, w3, w4, w5, w6, w7, w8, w9, w10, w11, w12, w13, w14, w15] (some (ab_I r4)) [v5, w1, w2, v6, v7, w5, w6, w7, v8, w9, w10, w11, w12, w13, w14, w15] ∧ Post (some (ab_I r4)) [v5, w1, w2, v6, v7, w5, w6, w7, v8, w9, w10, w11, w12, w13, w14, w15])) ∧ (¬ a1 ≤ 11 → (∃ r9 : Int, ∃ v10 : ab_Ob, ab_Calls d 0 0 mX8_refuse [ab_O 0, ab_I 2] [w0, w1, w2, w3, w4, w5, w6, w7, w8, w9, w10, w11, w12, w13, w14, w15] (some (ab_I r9)) [v10, w1, w2, w3, w4, w5, w6, w7, w8, w9, w10, w11, w12, w13, w14, w15] ∧ Post (some (ab_I r9)) [v10, w1, w2, w3, w4, w5, w6, w7, w8, w9, w10, w11, w12, w13, w14, w15])))))) ∧ (r1 = 0 → (∃ r11 : Int, ∃ v12 : ab_Ob, ab_Calls d 0 0 mX8_refuse [ab_O 0, ab_I 1] [w0, w1, w2, w3, w4, w5, w6, w7, w8, w9, w10, w11, w12, w13, w14, w15] (some (ab_I r11)) [v12, w1, w2, w3, w4, w5, w6, w7, w8, w9, w10, w11, w12, w13, w14, w15] ∧ Post (some (ab_I r11)) [v12, w1, w2, w3, w4, w5, w6, w7, w8, w9, w10, w11, w12, w13, w14, w15]))))) :
    ab_J x 0 [some (ab_O 0), some (ab_I a1)] [] [w0, w1, w2, w3, w4, w5, w6, w7, w8, w9, w10, w11, w12, w13, w14, w15] kc ks := ab_go hx kX8_key.2 21 [] 0 h
def mX8_move : ab_M := ((yX8_move, cX8_move, 2, (some .int)), ([8, 4, 5, 5, 0, 1, 2, 7, 6, 1, 7, 7, 7, 7, 3, 3], [(0, 0), (0, 1), (0, 2), (0, 3), (0, 4), (0, 5), (0, 6), (0, 7), (0, 8), (0, 9), (0, 10), (0, 11), (0, 12), (0, 13), (0, 14), (0, 15)], [true, false, false, true, true, true, false, false, true, false, false, false, false, false, false, false], true, true, 0), (false, 8, 1))
def rX8_move : List ab_R := [(0, .aload_n 0, 1, 0, 0, 0, [], none),
  (1, .invokevirtual 130, 3, 0, 0, 0, [], some mX8_hasPiece),
  (4, .ifCond .ne 9, 3, 0, 0, 0, [13], none),
  (7, .aload_n 0, 1, 0, 0, 0, [], none),
  (8, .iconst 1, 1, 0, 0, 0, [], none),
  (9, .invokevirtual 101, 3, 0, 0, 0, [], some mX8_refuse),
  (12, .ireturn, 1, 0, 0, 0, [], none),
  (13, .iload_n 1, 1, 0, 0, 0, [], none),
  (14, .bipush (-99), 2, 0, 0, 0, [], none),
  (16, .if_icmp .lt 9, 3, 0, 0, 0, [25], none),
  (19, .iload_n 1, 1, 0, 0, 0, [], none),
  (20, .bipush 99, 2, 0, 0, 0, [], none),
  (22, .if_icmp .le 9, 3, 0, 0, 0, [31], none),
  (25, .aload_n 0, 1, 0, 0, 0, [], none),
  (26, .iconst 2, 1, 0, 0, 0, [], none),
  (27, .invokevirtual 101, 3, 0, 0, 0, [], some mX8_refuse),
  (30, .ireturn, 1, 0, 0, 0, [], none),
  (31, .aload_n 0, 1, 0, 0, 0, [], none),
  (32, .getfield 23, 3, 8, 2, 0, [], none),
  (35, .iload_n 1, 1, 0, 0, 0, [], none),
  (36, .invokevirtual 357, 3, 0, 0, 0, [], some mX5_canMove),
  (39, .ifCond .ne 9, 3, 0, 0, 0, [48], none),
  (42, .aload_n 0, 1, 0, 0, 0, [], none),
  (43, .iconst 5, 1, 0, 0, 0, [], none),
  (44, .invokevirtual 101, 3, 0, 0, 0, [], some mX8_refuse),
  (47, .ireturn, 1, 0, 0, 0, [], none),
  (48, .aload_n 0, 1, 0, 0, 0, [], none),
  (49, .iconst 4, 1, 0, 0, 0, [], none),
  (50, .iconst 0, 1, 0, 0, 0, [], none),
  (51, .iload_n 1, 1, 0, 0, 0, [], none),
  (52, .ineg, 1, 0, 0, 0, [], none),
  (53, .iload_n 1, 1, 0, 0, 0, [], none),
  (54, .invokevirtual 353, 3, 0, 0, 0, [], some mX8_act),
  (57, .pop, 1, 0, 0, 0, [], none),
  (58, .aload_n 0, 1, 0, 0, 0, [], none),
  (59, .aload_n 0, 1, 0, 0, 0, [], none),
  (60, .invokevirtual 335, 3, 0, 0, 0, [], some mX8_wholeBreaks),
  (63, .invokevirtual 124, 3, 0, 0, 0, [], some mX8_grant),
  (66, .ireturn, 1, 0, 0, 0, [], none)]
set_option maxRecDepth 100000 in
theorem kX8_move : ab_def_ok mX8_move rX8_move := ⟨ab_mok_of 1110 101 1108 1109 (by decide +kernel), [0, 636, 0, 0, 0, 455, 0, 0, 0, 0, 0, 0, 0, 0, 0, 455, 0, 0, 393, 0, 1111, 0, 0, 0, 455, 0, 0, 0, 0, 0, 0, 0, 1074, 0, 0, 0, 1036, 620, 0], by decide +kernel⟩
set_option maxRecDepth 100000 in
theorem vX8_move_0 {x : ab_Cx} {d mc ms : Nat} {Post : Option ab_V → List ab_Ob → Prop} (hx : ab_At x mX8_move d mc ms Post) (a1 : Int) (w0 w1 w2 w3 w4 w5 w6 w7 w8 w9 w10 w11 w12 w13 w14 w15 : ab_Ob) (kc ks : Nat)
    (h : (∃ r1 : Int, ab_Calls d 0 0 mX8_hasPiece [ab_O 0] [w0, w1, w2, w3, w4, w5, w6, w7, w8, w9, w10, w11, w12, w13, w14, w15] (some (ab_I r1)) [w0, w1, w2, w3, w4, w5, w6, w7, w8, w9, w10, w11, w12, w13, w14, w15] ∧ ((¬ r1 = 0 → ((a1 < (-99) → (∃ r2 : Int, ∃ v3 : ab_Ob, ab_Calls d 0 0 mX8_refuse [ab_O 0, ab_I 2] [w0, w1, w2, w3, w4, w5, w6, w7, w8, w9, w10, w11, w12, w13, w14, w15] (some (ab_I r2)) [v3, w1, w2, w3, w4, w5, w6, w7, w8, w9, w10, w11, w12, w13, w14, w15] ∧ Post (some (ab_I r2)) [v3, w1, w2, w3, w4, w5, w6, w7, w8, w9, w10, w11, w12, w13, w14, w15])) ∧ (¬ a1 < (-99) → ((a1 ≤ 99 → (∃ r4 : Int, ab_Calls d 0 0 mX5_canMove [ab_O 0, ab_I a1] [w3] (some (ab_I r4)) [w3] ∧ ((¬ r4 = 0 → ((-2147483648 ≤ -a1 ∧ -a1 ≤ 2147483647) ∧ (∃ r5 : Int, ∃ v6 : ab_Ob, ∃ v7 : ab_Ob, ∃ v8 : ab_Ob, ∃ v9 : ab_Ob, ab_Calls d 0 0 mX8_act [ab_O 0, ab_I 4, ab_I 0, ab_I (-a1), ab_I a1] [w0, w1, w2, w3, w4, w5, w6, w7, w8, w9, w10, w11, w12, w13, w14, w15] (some (ab_I r5)) [v6, w1, w2, v7, v8, w5, w6, w7, v9, w9, w10, w11, w12, w13, w14, w15] ∧ (∃ mc10 ms11 : Nat, (kc + mc10 ≤ mc ∧ ks + ms11 ≤ ms) ∧ ∃ r12 : Int, ∃ v13 : ab_Ob, ∃ v14 : ab_Ob, ab_Calls d mc10 ms11 mX8_wholeBreaks [ab_O 0] [v6, w1, w2, v7, v8, w5, w6, w7, v9, w9, w10, w11, w12, w13, w14, w15] (some (ab_I r12)) [v13, w1, w2, v7, v8, v14, w6, w7, v9, w9, w10, w11, w12, w13, w14, w15] ∧ (∃ r15 : Int, ∃ v16 : ab_Ob, ab_Calls d 0 0 mX8_grant [ab_O 0, ab_I r12] [v13, w1, w2, v7, v8, v14, w6, w7, v9, w9, w10, w11, w12, w13, w14, w15] (some (ab_I r15)) [v16, w1, w2, v7, v8, v14, w6, w7, v9, w9, w10, w11, w12, w13, w14, w15] ∧ Post (some (ab_I r15)) [v16, w1, w2, v7, v8, v14, w6, w7, v9, w9, w10, w11, w12, w13, w14, w15]))))) ∧ (r4 = 0 → (∃ r17 : Int, ∃ v18 : ab_Ob, ab_Calls d 0 0 mX8_refuse [ab_O 0, ab_I 5] [w0, w1, w2, w3, w4, w5, w6, w7, w8, w9, w10, w11, w12, w13, w14, w15] (some (ab_I r17)) [v18, w1, w2, w3, w4, w5, w6, w7, w8, w9, w10, w11, w12, w13, w14, w15] ∧ Post (some (ab_I r17)) [v18, w1, w2, w3, w4, w5, w6, w7, w8, w9, w10, w11, w12, w13, w14, w15]))))) ∧ (¬ a1 ≤ 99 → (∃ r19 : Int, ∃ v20 : ab_Ob, ab_Calls d 0 0 mX8_refuse [ab_O 0, ab_I 2] [w0, w1, w2, w3, w4, w5, w6, w7, w8, w9, w10, w11, w12, w13, w14, w15] (some (ab_I r19)) [v20, w1, w2, w3, w4, w5, w6, w7, w8, w9, w10, w11, w12, w13, w14, w15] ∧ Post (some (ab_I r19)) [v20, w1, w2, w3, w4, w5, w6, w7, w8, w9, w10, w11, w12, w13, w14, w15])))))) ∧ (r1 = 0 → (∃ r21 : Int, ∃ v22 : ab_Ob, ab_Calls d 0 0 mX8_refuse [ab_O 0, ab_I 1] [w0, w1, w2, w3, w4, w5, w6, w7, w8, w9, w10, w11, w12, w13, w14, w15] (some (ab_I r21)) [v22, w1, w2, w3, w4, w5, w6, w7, w8, w9, w10, w11, w12, w13, w14, w15] ∧ Post (some (ab_I r21)) [v22, w1, w2, w3, w4, w5, w6, w7, w8, w9, w10, w11, w12, w13, w14, w15]))))) :
    ab_J x 0 [some (ab_O 0), some (ab_I a1)] [] [w0, w1, w2, w3, w4, w5, w6, w7, w8, w9, w10, w11, w12, w13, w14, w15] kc ks := ab_go hx kX8_move.2 31 [] 0 h
def mX8_undo : ab_M := ((yX8_undo, cX8_undo, 2, (some .boolean)), ([8, 4, 5, 5, 0, 1, 2, 7, 6, 1, 7, 7, 7, 7, 3, 3], [(0, 0), (0, 1), (0, 2), (0, 3), (0, 4), (0, 5), (0, 6), (0, 7), (0, 8), (0, 9), (0, 10), (0, 11), (0, 12), (0, 13), (0, 14), (0, 15)], [true, false, false, true, true, false, false, false, true, false, false, false, false, false, false, false], false, false, 0), (false, 8, 0))
def rX8_undo : List ab_R := [(0, .aload_n 0, 1, 0, 0, 0, [], none),
  (1, .getfield 30, 3, 8, 3, 0, [], none),
  (4, .getfield 115, 3, 0, 0, 0, [], none),
  (7, .iconst 1, 1, 0, 0, 0, [], none),
  (8, .if_icmp .ge 10, 3, 0, 0, 0, [18], none),
  (11, .aload_n 0, 1, 0, 0, 0, [], none),
  (12, .iconst 1, 1, 0, 0, 0, [], none),
  (13, .putfield 9, 3, 8, 0, 0, [], none),
  (16, .iconst 0, 1, 0, 0, 0, [], none),
  (17, .ireturn, 1, 0, 0, 0, [], none),
  (18, .aload_n 0, 1, 0, 0, 0, [], none),
  (19, .getfield 30, 3, 8, 3, 0, [], none),
  (22, .dup, 1, 0, 0, 0, [], none),
  (23, .getfield 115, 3, 0, 0, 0, [], none),
  (26, .iconst 1, 1, 0, 0, 0, [], none),
  (27, .isub, 1, 0, 0, 0, [], none),
  (28, .putfield 115, 3, 0, 0, 0, [], none),
  (31, .aload_n 0, 1, 0, 0, 0, [], none),
  (32, .getfield 30, 3, 8, 3, 0, [], none),
  (35, .getfield 115, 3, 0, 0, 0, [], none),
  (38, .istore_n 1, 1, 0, 0, 0, [], none),
  (39, .aload_n 0, 1, 0, 0, 0, [], none),
  (40, .aload_n 0, 1, 0, 0, 0, [], none),
  (41, .getfield 30, 3, 8, 3, 0, [], none),
  (44, .getfield 360, 3, 0, 1, 0, [], none),
  (47, .iload_n 1, 1, 0, 0, 0, [], none),
  (48, .iaload, 1, 0, 0, 0, [], none),
  (49, .aload_n 0, 1, 0, 0, 0, [], none),
  (50, .getfield 30, 3, 8, 3, 0, [], none),
  (53, .getfield 363, 3, 0, 2, 0, [], none),
  (56, .iload_n 1, 1, 0, 0, 0, [], none),
  (57, .iaload, 1, 0, 0, 0, [], none),
  (58, .aload_n 0, 1, 0, 0, 0, [], none),
  (59, .getfield 30, 3, 8, 3, 0, [], none),
  (62, .getfield 366, 3, 0, 3, 0, [], none),
  (65, .iload_n 1, 1, 0, 0, 0, [], none),
  (66, .iaload, 1, 0, 0, 0, [], none),
  (67, .invokevirtual 369, 3, 0, 0, 0, [], some mX8_change),
  (70, .aload_n 0, 1, 0, 0, 0, [], none),
  (71, .iconst 0, 1, 0, 0, 0, [], none),
  (72, .putfield 9, 3, 8, 0, 0, [], none),
  (75, .iconst 1, 1, 0, 0, 0, [], none),
  (76, .ireturn, 1, 0, 0, 0, [], none)]
set_option maxRecDepth 100000 in
theorem kX8_undo : ab_def_ok mX8_undo rX8_undo := ⟨ab_mok_of 1118 101 1116 1117 (by decide +kernel), [0, 394, 240, 0, 0, 0, 0, 391, 0, 0, 0, 394, 0, 240, 0, 0, 240, 0, 394, 240, 0, 0, 0, 394, 242, 0, 0, 0, 394, 244, 0, 0, 0, 394, 246, 0, 0, 1086, 0, 0, 391, 0, 0], by decide +kernel⟩
set_option maxRecDepth 100000 in
theorem vX8_undo_0 {x : ab_Cx} {d mc ms : Nat} {Post : Option ab_V → List ab_Ob → Prop} (hx : ab_At x mX8_undo d mc ms Post) (w0 w1 w2 w3 w4 w5 w6 w7 w8 w9 w10 w11 w12 w13 w14 w15 : ab_Ob) (kc ks : Nat)
    (h : ((1 ≤ (w4.1 0) → ((-2147483648 ≤ (w4.1 0) - 1 ∧ (w4.1 0) - 1 ≤ 2147483647) ∧ ((0 ≤ ((w4.1 0) - 1) ∧ ((w4.1 0) - 1) < (w4.2 1).1) ∧ ((0 ≤ ((w4.1 0) - 1) ∧ ((w4.1 0) - 1) < (w4.2 2).1) ∧ ((0 ≤ ((w4.1 0) - 1) ∧ ((w4.1 0) - 1) < (w4.2 3).1) ∧ (∃ v1 : ab_Ob, ∃ v2 : ab_Ob, ∃ v3 : ab_Ob, ab_Calls d 0 0 mX8_change [ab_O 0, ab_I ((w4.2 1).2 ((w4.1 0) - 1)), ab_I ((w4.2 2).2 ((w4.1 0) - 1)), ab_I ((w4.2 3).2 ((w4.1 0) - 1))] [w0, w1, w2, w3, (ab_pf w4 0 ((w4.1 0) - 1)), w5, w6, w7, w8, w9, w10, w11, w12, w13, w14, w15] none [v1, w1, w2, v2, (ab_pf w4 0 ((w4.1 0) - 1)), w5, w6, w7, v3, w9, w10, w11, w12, w13, w14, w15] ∧ (((1 : Int) = 0 ∨ (1 : Int) = 1) ∧ Post (some (ab_I 1)) [(ab_pf v1 0 0), w1, w2, v2, (ab_pf w4 0 ((w4.1 0) - 1)), w5, w6, w7, v3, w9, w10, w11, w12, w13, w14, w15]))))))) ∧ (¬ 1 ≤ (w4.1 0) → (((0 : Int) = 0 ∨ (0 : Int) = 1) ∧ Post (some (ab_I 0)) [(ab_pf w0 0 1), w1, w2, w3, w4, w5, w6, w7, w8, w9, w10, w11, w12, w13, w14, w15])))) :
    ab_J x 0 [some (ab_O 0), none] [] [w0, w1, w2, w3, w4, w5, w6, w7, w8, w9, w10, w11, w12, w13, w14, w15] kc ks := ab_go hx kX8_undo.2 42 [] 0 h
def mX8_size : ab_M := ((yX8_size, cX8_size, 2, (some .int)), ([8, 4, 5, 5, 0, 1, 2, 7, 6, 1, 7, 7, 7, 7, 3, 3], [(0, 0), (0, 1), (0, 2), (0, 3), (0, 4), (0, 5), (0, 6), (0, 7), (0, 8), (0, 9), (0, 10), (0, 11), (0, 12), (0, 13), (0, 14), (0, 15)], [false, false, false, false, false, false, false, false, false, false, false, false, false, false, false, false], false, false, 0), (false, 8, 1))
def rX8_size : List ab_R := [(0, .iload_n 1, 1, 0, 0, 0, [], none),
  (1, .tableswitch 56 0 2 #[27, 35, 43], 27, 0, 0, 0, [57, 28, 36, 44], none),
  (28, .aload_n 0, 1, 0, 0, 0, [], none),
  (29, .getfield 16, 3, 8, 1, 0, [], none),
  (32, .getfield 94, 3, 4, 0, 0, [], none),
  (35, .ireturn, 1, 0, 0, 0, [], none),
  (36, .aload_n 0, 1, 0, 0, 0, [], none),
  (37, .getfield 30, 3, 8, 3, 0, [], none),
  (40, .getfield 115, 3, 0, 0, 0, [], none),
  (43, .ireturn, 1, 0, 0, 0, [], none),
  (44, .aload_n 0, 1, 0, 0, 0, [], none),
  (45, .getfield 75, 3, 8, 12, 0, [], none),
  (48, .ifCond .eq 7, 3, 0, 0, 0, [55], none),
  (51, .iconst 1, 1, 0, 0, 0, [], none),
  (52, .goto 4, 3, 0, 0, 0, [56], none),
  (55, .iconst 0, 1, 0, 0, 0, [], none),
  (56, .ireturn, 1, 0, 0, 0, [], none),
  (57, .iconst (-1), 1, 0, 0, 0, [], none),
  (58, .ireturn, 1, 0, 0, 0, [], none)]
set_option maxRecDepth 100000 in
theorem kX8_size : ab_def_ok mX8_size rX8_size := ⟨ab_mok_of 1122 101 1120 1121 (by decide +kernel), [0, 0, 0, 392, 194, 0, 0, 394, 240, 0, 0, 403, 0, 0, 0, 0, 0, 0, 0], by decide +kernel⟩
set_option maxRecDepth 100000 in
theorem vX8_size_0 {x : ab_Cx} {d mc ms : Nat} {Post : Option ab_V → List ab_Ob → Prop} (hx : ab_At x mX8_size d mc ms Post) (a1 : Int) (w0 w1 w2 w3 w4 w5 w6 w7 w8 w9 w10 w11 w12 w13 w14 w15 : ab_Ob) (kc ks : Nat)
    (h : ((a1 < 0 ∨ 2 < a1 → Post (some (ab_I (-1))) [w0, w1, w2, w3, w4, w5, w6, w7, w8, w9, w10, w11, w12, w13, w14, w15]) ∧ ((a1 = 0 → Post (some (ab_I (w1.1 0))) [w0, w1, w2, w3, w4, w5, w6, w7, w8, w9, w10, w11, w12, w13, w14, w15]) ∧ ((a1 = 1 → Post (some (ab_I (w4.1 0))) [w0, w1, w2, w3, w4, w5, w6, w7, w8, w9, w10, w11, w12, w13, w14, w15]) ∧ ((a1 = 2 → (((w0.1 12) = 0 → Post (some (ab_I 0)) [w0, w1, w2, w3, w4, w5, w6, w7, w8, w9, w10, w11, w12, w13, w14, w15]) ∧ (¬ (w0.1 12) = 0 → Post (some (ab_I 1)) [w0, w1, w2, w3, w4, w5, w6, w7, w8, w9, w10, w11, w12, w13, w14, w15]))) ∧ True))))) :
    ab_J x 0 [some (ab_O 0), some (ab_I a1)] [] [w0, w1, w2, w3, w4, w5, w6, w7, w8, w9, w10, w11, w12, w13, w14, w15] kc ks := ab_go hx kX8_size.2 12 [] 0 h
def mX8_trouble : ab_M := ((yX8_trouble, cX8_trouble, 1, (some .int)), ([8, 4, 5, 5, 0, 1, 2, 7, 6, 1, 7, 7, 7, 7, 3, 3], [(0, 0), (0, 1), (0, 2), (0, 3), (0, 4), (0, 5), (0, 6), (0, 7), (0, 8), (0, 9), (0, 10), (0, 11), (0, 12), (0, 13), (0, 14), (0, 15)], [false, false, false, false, false, false, false, false, false, false, false, false, false, false, false, false], false, false, 0), (false, 8, 0))
def rX8_trouble : List ab_R := [(0, .aload_n 0, 1, 0, 0, 0, [], none),
  (1, .getfield 9, 3, 8, 0, 0, [], none),
  (4, .ireturn, 1, 0, 0, 0, [], none)]
set_option maxRecDepth 100000 in
theorem kX8_trouble : ab_def_ok mX8_trouble rX8_trouble := ⟨ab_mok_of 1126 101 1124 1125 (by decide +kernel), [0, 391, 0], by decide +kernel⟩
set_option maxRecDepth 100000 in
theorem vX8_trouble_0 {x : ab_Cx} {d mc ms : Nat} {Post : Option ab_V → List ab_Ob → Prop} (hx : ab_At x mX8_trouble d mc ms Post) (w0 w1 w2 w3 w4 w5 w6 w7 w8 w9 w10 w11 w12 w13 w14 w15 : ab_Ob) (kc ks : Nat)
    (h : Post (some (ab_I (w0.1 0))) [w0, w1, w2, w3, w4, w5, w6, w7, w8, w9, w10, w11, w12, w13, w14, w15]) :
    ab_J x 0 [some (ab_O 0)] [] [w0, w1, w2, w3, w4, w5, w6, w7, w8, w9, w10, w11, w12, w13, w14, w15] kc ks := ab_go hx kX8_trouble.2 7 [] 0 h
