def mX0_forgetFirst : ab_M := ((yX0_forgetFirst, cX0_forgetFirst, 2, none), ([0], [(0, 0)], [true], false, false, 0), (false, 0, 0))
def rX0_forgetFirst : List ab_R := [(0, .iconst 0, 1, 0, 0, 0, [], none),
  (1, .istore_n 1, 1, 0, 0, 0, [], none),
  (2, .iload_n 1, 1, 0, 0, 0, [], none),
  (3, .iconst 1, 1, 0, 0, 0, [], none),
  (4, .iadd, 1, 0, 0, 0, [], none),
  (5, .bipush 10, 2, 0, 0, 0, [], none),
  (7, .if_icmp .ge 51, 3, 0, 0, 0, [58], none),
  (10, .aload_n 0, 1, 0, 0, 0, [], none),
  (11, .getfield 15, 3, 0, 1, 0, [], none),
  (14, .iload_n 1, 1, 0, 0, 0, [], none),
  (15, .aload_n 0, 1, 0, 0, 0, [], none),
  (16, .getfield 15, 3, 0, 1, 0, [], none),
  (19, .iload_n 1, 1, 0, 0, 0, [], none),
  (20, .iconst 1, 1, 0, 0, 0, [], none),
  (21, .iadd, 1, 0, 0, 0, [], none),
  (22, .iaload, 1, 0, 0, 0, [], none),
  (23, .iastore, 1, 0, 0, 0, [], none),
  (24, .aload_n 0, 1, 0, 0, 0, [], none),
  (25, .getfield 19, 3, 0, 2, 0, [], none),
  (28, .iload_n 1, 1, 0, 0, 0, [], none),
  (29, .aload_n 0, 1, 0, 0, 0, [], none),
  (30, .getfield 19, 3, 0, 2, 0, [], none),
  (33, .iload_n 1, 1, 0, 0, 0, [], none),
  (34, .iconst 1, 1, 0, 0, 0, [], none),
  (35, .iadd, 1, 0, 0, 0, [], none),
  (36, .iaload, 1, 0, 0, 0, [], none),
  (37, .iastore, 1, 0, 0, 0, [], none),
  (38, .aload_n 0, 1, 0, 0, 0, [], none),
  (39, .getfield 22, 3, 0, 3, 0, [], none),
  (42, .iload_n 1, 1, 0, 0, 0, [], none),
  (43, .aload_n 0, 1, 0, 0, 0, [], none),
  (44, .getfield 22, 3, 0, 3, 0, [], none),
  (47, .iload_n 1, 1, 0, 0, 0, [], none),
  (48, .iconst 1, 1, 0, 0, 0, [], none),
  (49, .iadd, 1, 0, 0, 0, [], none),
  (50, .iaload, 1, 0, 0, 0, [], none),
  (51, .iastore, 1, 0, 0, 0, [], none),
  (52, .iinc 1 1, 3, 0, 0, 0, [], none),
  (55, .goto (-53), 3, 0, 0, 0, [2], none),
  (58, .aload_n 0, 1, 0, 0, 0, [], none),
  (59, .bipush 9, 2, 0, 0, 0, [], none),
  (61, .putfield 9, 3, 0, 0, 0, [], none),
  (64, .return_, 1, 0, 0, 0, [], none)]
set_option maxRecDepth 100000 in
theorem kX0_forgetFirst : ab_def_ok mX0_forgetFirst rX0_forgetFirst := ⟨ab_mok_of 1075 102 1074 41 (by decide +kernel), [0, 0, 0, 0, 0, 0, 0, 0, 239, 0, 0, 239, 0, 0, 0, 0, 0, 0, 241, 0, 0, 241, 0, 0, 0, 0, 0, 0, 243, 0, 0, 243, 0, 0, 0, 0, 0, 0, 0, 0, 0, 237, 0], by decide +kernel⟩
set_option maxRecDepth 100000 in
theorem vX0_forgetFirst_0 {x : ab_Cx} {d mc ms : Nat} {Post : Option ab_V → List ab_Ob → Prop} (hx : ab_At x mX0_forgetFirst d mc ms Post) (w0 : ab_Ob) (kc ks : Nat)
    (h : ab_J x 2 [some (ab_O 0), some (ab_I 0)] [] [w0] kc ks) :
    ab_J x 0 [some (ab_O 0), none] [] [w0] kc ks := ab_go hx kX0_forgetFirst.2 7 [(2, [true, true])] 0 h
set_option maxRecDepth 100000 in
theorem vX0_forgetFirst_2 {x : ab_Cx} {d mc ms : Nat} {Post : Option ab_V → List ab_Ob → Prop} (hx : ab_At x mX0_forgetFirst d mc ms Post) (l1 : Int) (w0 : ab_Ob) (kc ks : Nat)
    (h : ((-2147483648 ≤ l1 + 1 ∧ l1 + 1 ≤ 2147483647) ∧ ((10 ≤ (l1 + 1) → Post none [(ab_pf w0 0 9)]) ∧ (¬ 10 ≤ (l1 + 1) → ((-2147483648 ≤ l1 + 1 ∧ l1 + 1 ≤ 2147483647) ∧ ((0 ≤ (l1 + 1) ∧ (l1 + 1) < (w0.2 1).1) ∧ ((0 ≤ l1 ∧ l1 < (w0.2 1).1) ∧ ((-2147483648 ≤ l1 + 1 ∧ l1 + 1 ≤ 2147483647) ∧ ((0 ≤ (l1 + 1) ∧ (l1 + 1) < (w0.2 2).1) ∧ ((0 ≤ l1 ∧ l1 < (w0.2 2).1) ∧ ((-2147483648 ≤ l1 + 1 ∧ l1 + 1 ≤ 2147483647) ∧ ((0 ≤ (l1 + 1) ∧ (l1 + 1) < (w0.2 3).1) ∧ ((0 ≤ l1 ∧ l1 < (w0.2 3).1) ∧ ((-2147483648 ≤ l1 + 1 ∧ l1 + 1 ≤ 2147483647) ∧ ab_J x 2 [some (ab_O 0), some (ab_I (l1 + 1))] [] [(ab_pa (ab_pa (ab_pa w0 1 l1 ((w0.2 1).2 (l1 + 1))) 2 l1 ((w0.2 2).2 (l1 + 1))) 3 l1 ((w0.2 3).2 (l1 + 1)))] kc ks)))))))))))))) :
    ab_J x 2 [some (ab_O 0), some (ab_I l1)] [] [w0] kc ks := ab_go hx kX0_forgetFirst.2 42 [(2, [true, true])] 2 h
def mX0_add : ab_M := ((yX0_add, cX0_add, 4, none), ([0], [(0, 0)], [true], false, false, 0), (false, 0, 3))
def rX0_add : List ab_R := [(0, .aload_n 0, 1, 0, 0, 0, [], none),
  (1, .getfield 9, 3, 0, 0, 0, [], none),
  (4, .bipush 10, 2, 0, 0, 0, [], none),
  (6, .if_icmp .ne 7, 3, 0, 0, 0, [13], none),
  (9, .aload_n 0, 1, 0, 0, 0, [], none),
  (10, .invokevirtual 25, 3, 0, 0, 0, [], some mX0_forgetFirst),
  (13, .aload_n 0, 1, 0, 0, 0, [], none),
  (14, .getfield 15, 3, 0, 1, 0, [], none),
  (17, .aload_n 0, 1, 0, 0, 0, [], none),
  (18, .getfield 9, 3, 0, 0, 0, [], none),
  (21, .iload_n 1, 1, 0, 0, 0, [], none),
  (22, .iastore, 1, 0, 0, 0, [], none),
  (23, .aload_n 0, 1, 0, 0, 0, [], none),
  (24, .getfield 19, 3, 0, 2, 0, [], none),
  (27, .aload_n 0, 1, 0, 0, 0, [], none),
  (28, .getfield 9, 3, 0, 0, 0, [], none),
  (31, .iload_n 2, 1, 0, 0, 0, [], none),
  (32, .iastore, 1, 0, 0, 0, [], none),
  (33, .aload_n 0, 1, 0, 0, 0, [], none),
  (34, .getfield 22, 3, 0, 3, 0, [], none),
  (37, .aload_n 0, 1, 0, 0, 0, [], none),
  (38, .getfield 9, 3, 0, 0, 0, [], none),
  (41, .iload_n 3, 1, 0, 0, 0, [], none),
  (42, .iastore, 1, 0, 0, 0, [], none),
  (43, .aload_n 0, 1, 0, 0, 0, [], none),
  (44, .dup, 1, 0, 0, 0, [], none),
  (45, .getfield 9, 3, 0, 0, 0, [], none),
  (48, .iconst 1, 1, 0, 0, 0, [], none),
  (49, .iadd, 1, 0, 0, 0, [], none),
  (50, .putfield 9, 3, 0, 0, 0, [], none),
  (53, .return_, 1, 0, 0, 0, [], none)]
set_option maxRecDepth 100000 in
theorem kX0_add : ab_def_ok mX0_add rX0_add := ⟨ab_mok_of 1071 102 1069 1070 (by decide +kernel), [0, 237, 0, 0, 0, 1072, 0, 239, 0, 237, 0, 0, 0, 241, 0, 237, 0, 0, 0, 243, 0, 237, 0, 0, 0, 0, 237, 0, 0, 237, 0], by decide +kernel⟩
set_option maxRecDepth 100000 in
theorem vX0_add_0 {x : ab_Cx} {d mc ms : Nat} {Post : Option ab_V → List ab_Ob → Prop} (hx : ab_At x mX0_add d mc ms Post) (a1 a2 a3 : Int) (w0 : ab_Ob) (kc ks : Nat)
    (h : ((¬ (w0.1 0) = 10 → ((0 ≤ (w0.1 0) ∧ (w0.1 0) < (w0.2 1).1) ∧ ((0 ≤ (w0.1 0) ∧ (w0.1 0) < (w0.2 2).1) ∧ ((0 ≤ (w0.1 0) ∧ (w0.1 0) < (w0.2 3).1) ∧ ((-2147483648 ≤ (w0.1 0) + 1 ∧ (w0.1 0) + 1 ≤ 2147483647) ∧ Post none [(ab_pf (ab_pa (ab_pa (ab_pa w0 1 (w0.1 0) a1) 2 (w0.1 0) a2) 3 (w0.1 0) a3) 0 ((w0.1 0) + 1))]))))) ∧ ((w0.1 0) = 10 → (∃ Q1 : Option ab_V → List ab_Ob → Prop, ab_Ct d 0 0 mX0_forgetFirst [ab_O 0] [w0] Q1 ∧ (∀ v2 : ab_Ob, Q1 none [v2] → ((0 ≤ (v2.1 0) ∧ (v2.1 0) < (v2.2 1).1) ∧ ((0 ≤ (v2.1 0) ∧ (v2.1 0) < (v2.2 2).1) ∧ ((0 ≤ (v2.1 0) ∧ (v2.1 0) < (v2.2 3).1) ∧ ((-2147483648 ≤ (v2.1 0) + 1 ∧ (v2.1 0) + 1 ≤ 2147483647) ∧ Post none [(ab_pf (ab_pa (ab_pa (ab_pa v2 1 (v2.1 0) a1) 2 (v2.1 0) a2) 3 (v2.1 0) a3) 0 ((v2.1 0) + 1))]))))))))) :
    ab_J x 0 [some (ab_O 0), some (ab_I a1), some (ab_I a2), some (ab_I a3)] [] [w0] kc ks := ab_go hx kX0_add.2 35 [] 0 h
