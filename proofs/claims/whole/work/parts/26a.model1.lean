def mX9_thrown : ab_M := ((yX9_thrown, cX9_thrown, 1, (some .int)), ([9], [(0, 0)], [false], false, false, 0), (false, 9, 0))
def rX9_thrown : List ab_R := [(0, .aload_n 0, 1, 0, 0, 0, [], none),
  (1, .getfield 100, 3, 9, 0, 0, [], none),
  (4, .ireturn, 1, 0, 0, 0, [], none)]
set_option maxRecDepth 100000 in
theorem kX9_thrown : ab_def_ok mX9_thrown rX9_thrown := ⟨ab_mok_of 1352 108 1350 1351 (by decide +kernel), [0, 1192, 0], by decide +kernel⟩
set_option maxRecDepth 100000 in
theorem vX9_thrown_0 {x : ab_Cx} {d mc ms : Nat} {Post : Option ab_V → List ab_Ob → Prop} (hx : ab_At x mX9_thrown d mc ms Post) (w0 : ab_Ob) (kc ks : Nat)
    (h : Post (some (ab_I (w0.1 0))) [w0]) :
    ab_J x 0 [some (ab_O 0)] [] [w0] kc ks := ab_go hx kX9_thrown.2 7 [] 0 h
def mX9_refused : ab_M := ((yX9_refused, cX9_refused, 2, (some .int)), ([9], [(0, 0)], [true], false, false, 0), (false, 9, 1))
def rX9_refused : List ab_R := [(0, .aload_n 0, 1, 0, 0, 0, [], none),
  (1, .iload_n 1, 1, 0, 0, 0, [], none),
  (2, .putfield 103, 3, 9, 1, 0, [], none),
  (5, .aload_n 0, 1, 0, 0, 0, [], none),
  (6, .iconst (-1), 1, 0, 0, 0, [], none),
  (7, .putfield 9, 3, 9, 2, 0, [], none),
  (10, .iconst (-1), 1, 0, 0, 0, [], none),
  (11, .ireturn, 1, 0, 0, 0, [], none)]
set_option maxRecDepth 100000 in
theorem kX9_refused : ab_def_ok mX9_refused rX9_refused := ⟨ab_mok_of 1364 108 1363 44 (by decide +kernel), [0, 0, 1193, 0, 0, 1194, 0, 0], by decide +kernel⟩
set_option maxRecDepth 100000 in
theorem vX9_refused_0 {x : ab_Cx} {d mc ms : Nat} {Post : Option ab_V → List ab_Ob → Prop} (hx : ab_At x mX9_refused d mc ms Post) (a1 : Int) (w0 : ab_Ob) (kc ks : Nat)
    (h : Post (some (ab_I (-1))) [(ab_pf (ab_pf w0 1 a1) 2 (-1))]) :
    ab_J x 0 [some (ab_O 0), some (ab_I a1)] [] [w0] kc ks := ab_go hx kX9_refused.2 12 [] 0 h
def mX9_good : ab_M := ((yX9_good, cX9_good, 2, (some .int)), ([9], [(0, 0)], [true], false, false, 0), (false, 9, 1))
def rX9_good : List ab_R := [(0, .aload_n 0, 1, 0, 0, 0, [], none),
  (1, .iconst 0, 1, 0, 0, 0, [], none),
  (2, .putfield 103, 3, 9, 1, 0, [], none),
  (5, .aload_n 0, 1, 0, 0, 0, [], none),
  (6, .iconst (-1), 1, 0, 0, 0, [], none),
  (7, .putfield 9, 3, 9, 2, 0, [], none),
  (10, .iload_n 1, 1, 0, 0, 0, [], none),
  (11, .ireturn, 1, 0, 0, 0, [], none)]
set_option maxRecDepth 100000 in
theorem kX9_good : ab_def_ok mX9_good rX9_good := ⟨ab_mok_of 1512 108 1511 74 (by decide +kernel), [0, 0, 1193, 0, 0, 1194, 0, 0], by decide +kernel⟩
set_option maxRecDepth 100000 in
theorem vX9_good_0 {x : ab_Cx} {d mc ms : Nat} {Post : Option ab_V → List ab_Ob → Prop} (hx : ab_At x mX9_good d mc ms Post) (a1 : Int) (w0 : ab_Ob) (kc ks : Nat)
    (h : Post (some (ab_I a1)) [(ab_pf (ab_pf w0 1 0) 2 (-1))]) :
    ab_J x 0 [some (ab_O 0), some (ab_I a1)] [] [w0] kc ks := ab_go hx kX9_good.2 12 [] 0 h
def mX9_in : ab_M := ((yX9_in, cX9_in, 3, (some .boolean)), ([], [], [], false, false, 0), (true, 9, 3))
def rX9_in : List ab_R := [(0, .iload_n 0, 1, 0, 0, 0, [], none),
  (1, .iload_n 1, 1, 0, 0, 0, [], none),
  (2, .if_icmp .lt 12, 3, 0, 0, 0, [14], none),
  (5, .iload_n 0, 1, 0, 0, 0, [], none),
  (6, .iload_n 2, 1, 0, 0, 0, [], none),
  (7, .if_icmp .gt 7, 3, 0, 0, 0, [14], none),
  (10, .iconst 1, 1, 0, 0, 0, [], none),
  (11, .goto 4, 3, 0, 0, 0, [15], none),
  (14, .iconst 0, 1, 0, 0, 0, [], none),
  (15, .ireturn, 1, 0, 0, 0, [], none)]
set_option maxRecDepth 100000 in
theorem kX9_in : ab_def_ok mX9_in rX9_in := ⟨ab_mok_of 1379 108 1378 0 (by decide +kernel), [0, 0, 0, 0, 0, 0, 0, 0, 0, 0], by decide +kernel⟩
set_option maxRecDepth 100000 in
theorem vX9_in_0 {x : ab_Cx} {d mc ms : Nat} {Post : Option ab_V → List ab_Ob → Prop} (hx : ab_At x mX9_in d mc ms Post) (a0 a1 a2 : Int) (kc ks : Nat)
    (h : ((a0 < a1 → (((0 : Int) = 0 ∨ (0 : Int) = 1) ∧ Post (some (ab_I 0)) [])) ∧ (¬ a0 < a1 → ((a2 < a0 → (((0 : Int) = 0 ∨ (0 : Int) = 1) ∧ Post (some (ab_I 0)) [])) ∧ (¬ a2 < a0 → (((1 : Int) = 0 ∨ (1 : Int) = 1) ∧ Post (some (ab_I 1)) [])))))) :
    ab_J x 0 [some (ab_I a0), some (ab_I a1), some (ab_I a2)] [] [] kc ks := ab_go hx kX9_in.2 13 [] 0 h
def mX9_byteAt : ab_M := ((yX9_byteAt, cX9_byteAt, 2, (some .int)), ([9], [(0, 0)], [false], false, false, 0), (false, 9, 1))
def rX9_byteAt : List ab_R := [(0, .iload_n 1, 1, 0, 0, 0, [], none),
  (1, .aload_n 0, 1, 0, 0, 0, [], none),
  (2, .getfield 106, 3, 9, 18, 0, [], none),
  (5, .if_icmp .ge 16, 3, 0, 0, 0, [21], none),
  (8, .aload_n 0, 1, 0, 0, 0, [], none),
  (9, .getfield 23, 3, 9, 16, 0, [], none),
  (12, .iload_n 1, 1, 0, 0, 0, [], none),
  (13, .baload, 1, 0, 0, 0, [], none),
  (14, .sipush 255, 3, 0, 0, 0, [], none),
  (17, .iand, 1, 0, 0, 0, [], none),
  (18, .goto 4, 3, 0, 0, 0, [22], none),
  (21, .iconst (-1), 1, 0, 0, 0, [], none),
  (22, .ireturn, 1, 0, 0, 0, [], none)]
set_option maxRecDepth 100000 in
theorem kX9_byteAt : ab_def_ok mX9_byteAt rX9_byteAt := ⟨ab_mok_of 1376 108 1375 47 (by decide +kernel), [0, 0, 1210, 0, 0, 1208, 0, 0, 0, 0, 0, 0, 0], by decide +kernel⟩
set_option maxRecDepth 100000 in
theorem vX9_byteAt_0 {x : ab_Cx} {d mc ms : Nat} {Post : Option ab_V → List ab_Ob → Prop} (hx : ab_At x mX9_byteAt d mc ms Post) (a1 : Int) (w0 : ab_Ob) (kc ks : Nat)
    (h : (((w0.1 18) ≤ a1 → Post (some (ab_I (-1))) [w0]) ∧ (¬ (w0.1 18) ≤ a1 → ((0 ≤ a1 ∧ a1 < (w0.2 16).1) ∧ Post (some (ab_I ((Int32.ofInt ((w0.2 16).2 a1) &&& Int32.ofInt 255).toInt))) [w0])))) :
    ab_J x 0 [some (ab_O 0), some (ab_I a1)] [] [w0] kc ks := ab_go hx kX9_byteAt.2 16 [] 0 h
def mX9_nextWord : ab_M := ((yX9_nextWord, cX9_nextWord, 1, none), ([9], [(0, 0)], [true], false, false, 0), (false, 9, 0))
def rX9_nextWord : List ab_R := [(0, .aload_n 0, 1, 0, 0, 0, [], none),
  (1, .lconst 0, 1, 0, 0, 0, [], none),
  (2, .putfield 135, 3, 9, 24, 0, [], none),
  (5, .aload_n 0, 1, 0, 0, 0, [], none),
  (6, .aload_n 0, 1, 0, 0, 0, [], none),
  (7, .getfield 112, 3, 9, 19, 0, [], none),
  (10, .invokevirtual 115, 3, 0, 0, 0, [], some mX9_byteAt),
  (13, .bipush 97, 2, 0, 0, 0, [], none),
  (15, .bipush 122, 2, 0, 0, 0, [], none),
  (17, .invokestatic 125, 3, 0, 0, 0, [], some mX9_in),
  (20, .ifCond .eq 51, 3, 0, 0, 0, [71], none),
  (23, .aload_n 0, 1, 0, 0, 0, [], none),
  (24, .getfield 112, 3, 9, 19, 0, [], none),
  (27, .aload_n 0, 1, 0, 0, 0, [], none),
  (28, .getfield 119, 3, 9, 21, 0, [], none),
  (31, .isub, 1, 0, 0, 0, [], none),
  (32, .bipush 6, 2, 0, 0, 0, [], none),
  (34, .if_icmp .ge 24, 3, 0, 0, 0, [58], none),
  (37, .aload_n 0, 1, 0, 0, 0, [], none),
  (38, .aload_n 0, 1, 0, 0, 0, [], none),
  (39, .getfield 135, 3, 9, 24, 0, [], none),
  (42, .bipush 8, 2, 0, 0, 0, [], none),
  (44, .lshl, 1, 0, 0, 0, [], none),
  (45, .aload_n 0, 1, 0, 0, 0, [], none),
  (46, .aload_n 0, 1, 0, 0, 0, [], none),
  (47, .getfield 112, 3, 9, 19, 0, [], none),
  (50, .invokevirtual 115, 3, 0, 0, 0, [], some mX9_byteAt),
  (53, .i2l, 1, 0, 0, 0, [], none),
  (54, .lor, 1, 0, 0, 0, [], none),
  (55, .putfield 135, 3, 9, 24, 0, [], none),
  (58, .aload_n 0, 1, 0, 0, 0, [], none),
  (59, .dup, 1, 0, 0, 0, [], none),
  (60, .getfield 112, 3, 9, 19, 0, [], none),
  (63, .iconst 1, 1, 0, 0, 0, [], none),
  (64, .iadd, 1, 0, 0, 0, [], none),
  (65, .putfield 112, 3, 9, 19, 0, [], none),
  (68, .goto (-63), 3, 0, 0, 0, [5], none),
  (71, .aload_n 0, 1, 0, 0, 0, [], none),
  (72, .aload_n 0, 1, 0, 0, 0, [], none),
  (73, .getfield 112, 3, 9, 19, 0, [], none),
  (76, .aload_n 0, 1, 0, 0, 0, [], none),
  (77, .getfield 119, 3, 9, 21, 0, [], none),
  (80, .isub, 1, 0, 0, 0, [], none),
  (81, .bipush 6, 2, 0, 0, 0, [], none),
  (83, .if_icmp .le 7, 3, 0, 0, 0, [90], none),
  (86, .iconst 0, 1, 0, 0, 0, [], none),
  (87, .goto 4, 3, 0, 0, 0, [91], none),
  (90, .iconst 2, 1, 0, 0, 0, [], none),
  (91, .putfield 122, 3, 9, 20, 0, [], none),
  (94, .return_, 1, 0, 0, 0, [], none)]
set_option maxRecDepth 100000 in
theorem kX9_nextWord : ab_def_ok mX9_nextWord rX9_nextWord := ⟨ab_mok_of 1383 108 1382 48 (by decide +kernel), [0, 0, 1216, 0, 0, 1211, 1373, 0, 0, 1377, 0, 0, 1211, 0, 1213, 0, 0, 0, 0, 0, 1216, 0, 0, 0, 0, 1211, 1373, 0, 0, 1216, 0, 0, 1211, 0, 0, 1211, 0, 0, 0, 1211, 0, 1213, 0, 0, 0, 0, 0, 0, 1212, 0], by decide +kernel⟩
set_option maxRecDepth 100000 in
theorem vX9_nextWord_0 {x : ab_Cx} {d mc ms : Nat} {Post : Option ab_V → List ab_Ob → Prop} (hx : ab_At x mX9_nextWord d mc ms Post) (w0 : ab_Ob) (kc ks : Nat)
    (h : ab_J x 5 [some (ab_O 0)] [] [(ab_pf w0 24 0)] kc ks) :
    ab_J x 0 [some (ab_O 0)] [] [w0] kc ks := ab_go hx kX9_nextWord.2 8 [(5, [true])] 0 h
set_option maxRecDepth 100000 in
theorem vX9_nextWord_5 {x : ab_Cx} {d mc ms : Nat} {Post : Option ab_V → List ab_Ob → Prop} (hx : ab_At x mX9_nextWord d mc ms Post) (w0 : ab_Ob) (kc ks : Nat)
    (h : (∃ Q1 : Option ab_V → List ab_Ob → Prop, ab_Ct d 0 0 mX9_byteAt [ab_O 0, ab_I (w0.1 19)] [w0] Q1 ∧ (∀ r2 : Int, Q1 (some (ab_I r2)) [w0] → (∃ Q3 : Option ab_V → List ab_Ob → Prop, ab_Ct d 0 0 mX9_in [ab_I r2, ab_I 97, ab_I 122] [] Q3 ∧ (∀ r4 : Int, Q3 (some (ab_I r4)) [] → ((r4 = 0 → ((-2147483648 ≤ (w0.1 19) - (w0.1 21) ∧ (w0.1 19) - (w0.1 21) ≤ 2147483647) ∧ ((((w0.1 19) - (w0.1 21)) ≤ 6 → Post none [(ab_pf w0 20 2)]) ∧ (¬ ((w0.1 19) - (w0.1 21)) ≤ 6 → Post none [(ab_pf w0 20 0)])))) ∧ (¬ r4 = 0 → ((-2147483648 ≤ (w0.1 19) - (w0.1 21) ∧ (w0.1 19) - (w0.1 21) ≤ 2147483647) ∧ ((6 ≤ ((w0.1 19) - (w0.1 21)) → ((-2147483648 ≤ (w0.1 19) + 1 ∧ (w0.1 19) + 1 ≤ 2147483647) ∧ ab_J x 5 [some (ab_O 0)] [] [(ab_pf w0 19 ((w0.1 19) + 1))] kc ks)) ∧ (¬ 6 ≤ ((w0.1 19) - (w0.1 21)) → (∃ Q5 : Option ab_V → List ab_Ob → Prop, ab_Ct d 0 0 mX9_byteAt [ab_O 0, ab_I (w0.1 19)] [w0] Q5 ∧ (∀ r6 : Int, Q5 (some (ab_I r6)) [w0] → ((-2147483648 ≤ (w0.1 19) + 1 ∧ (w0.1 19) + 1 ≤ 2147483647) ∧ ab_J x 5 [some (ab_O 0)] [] [(ab_pf (ab_pf w0 24 ((Int64.ofInt ((Int64.ofInt (w0.1 24) <<< ((Int32.ofInt 8).toInt64 &&& 63)).toInt) ||| Int64.ofInt r6).toInt)) 19 ((w0.1 19) + 1))] kc ks))))))))))))) :
    ab_J x 5 [some (ab_O 0)] [] [w0] kc ks := ab_go hx kX9_nextWord.2 39 [(5, [true])] 5 h
def mX9_nextWhole : ab_M := ((yX9_nextWhole, cX9_nextWhole, 1, none), ([9], [(0, 0)], [true], false, false, 0), (false, 9, 0))
def rX9_nextWhole : List ab_R := [(0, .aload_n 0, 1, 0, 0, 0, [], none),
  (1, .iconst 0, 1, 0, 0, 0, [], none),
  (2, .putfield 139, 3, 9, 22, 0, [], none),
  (5, .aload_n 0, 1, 0, 0, 0, [], none),
  (6, .aload_n 0, 1, 0, 0, 0, [], none),
  (7, .getfield 112, 3, 9, 19, 0, [], none),
  (10, .invokevirtual 115, 3, 0, 0, 0, [], some mX9_byteAt),
  (13, .bipush 48, 2, 0, 0, 0, [], none),
  (15, .bipush 57, 2, 0, 0, 0, [], none),
  (17, .invokestatic 125, 3, 0, 0, 0, [], some mX9_in),
  (20, .ifCond .eq 52, 3, 0, 0, 0, [72], none),
  (23, .aload_n 0, 1, 0, 0, 0, [], none),
  (24, .getfield 112, 3, 9, 19, 0, [], none),
  (27, .aload_n 0, 1, 0, 0, 0, [], none),
  (28, .getfield 119, 3, 9, 21, 0, [], none),
  (31, .isub, 1, 0, 0, 0, [], none),
  (32, .iconst 2, 1, 0, 0, 0, [], none),
  (33, .if_icmp .ge 26, 3, 0, 0, 0, [59], none),
  (36, .aload_n 0, 1, 0, 0, 0, [], none),
  (37, .bipush 10, 2, 0, 0, 0, [], none),
  (39, .aload_n 0, 1, 0, 0, 0, [], none),
  (40, .getfield 139, 3, 9, 22, 0, [], none),
  (43, .imul, 1, 0, 0, 0, [], none),
  (44, .aload_n 0, 1, 0, 0, 0, [], none),
  (45, .aload_n 0, 1, 0, 0, 0, [], none),
  (46, .getfield 112, 3, 9, 19, 0, [], none),
  (49, .invokevirtual 115, 3, 0, 0, 0, [], some mX9_byteAt),
  (52, .iadd, 1, 0, 0, 0, [], none),
  (53, .bipush 48, 2, 0, 0, 0, [], none),
  (55, .isub, 1, 0, 0, 0, [], none),
  (56, .putfield 139, 3, 9, 22, 0, [], none),
  (59, .aload_n 0, 1, 0, 0, 0, [], none),
  (60, .dup, 1, 0, 0, 0, [], none),
  (61, .getfield 112, 3, 9, 19, 0, [], none),
  (64, .iconst 1, 1, 0, 0, 0, [], none),
  (65, .iadd, 1, 0, 0, 0, [], none),
  (66, .putfield 112, 3, 9, 19, 0, [], none),
  (69, .goto (-64), 3, 0, 0, 0, [5], none),
  (72, .aload_n 0, 1, 0, 0, 0, [], none),
  (73, .aload_n 0, 1, 0, 0, 0, [], none),
  (74, .getfield 112, 3, 9, 19, 0, [], none),
  (77, .aload_n 0, 1, 0, 0, 0, [], none),
  (78, .getfield 119, 3, 9, 21, 0, [], none),
  (81, .isub, 1, 0, 0, 0, [], none),
  (82, .iconst 2, 1, 0, 0, 0, [], none),
  (83, .if_icmp .le 7, 3, 0, 0, 0, [90], none),
  (86, .iconst 0, 1, 0, 0, 0, [], none),
  (87, .goto 4, 3, 0, 0, 0, [91], none),
  (90, .iconst 3, 1, 0, 0, 0, [], none),
  (91, .putfield 122, 3, 9, 20, 0, [], none),
  (94, .return_, 1, 0, 0, 0, [], none)]
set_option maxRecDepth 100000 in
theorem kX9_nextWhole : ab_def_ok mX9_nextWhole rX9_nextWhole := ⟨ab_mok_of 1387 108 1386 49 (by decide +kernel), [0, 0, 1214, 0, 0, 1211, 1373, 0, 0, 1377, 0, 0, 1211, 0, 1213, 0, 0, 0, 0, 0, 0, 1214, 0, 0, 0, 1211, 1373, 0, 0, 0, 1214, 0, 0, 1211, 0, 0, 1211, 0, 0, 0, 1211, 0, 1213, 0, 0, 0, 0, 0, 0, 1212, 0], by decide +kernel⟩
set_option maxRecDepth 100000 in
theorem vX9_nextWhole_0 {x : ab_Cx} {d mc ms : Nat} {Post : Option ab_V → List ab_Ob → Prop} (hx : ab_At x mX9_nextWhole d mc ms Post) (w0 : ab_Ob) (kc ks : Nat)
    (h : ab_J x 5 [some (ab_O 0)] [] [(ab_pf w0 22 0)] kc ks) :
    ab_J x 0 [some (ab_O 0)] [] [w0] kc ks := ab_go hx kX9_nextWhole.2 8 [(5, [true])] 0 h
set_option maxRecDepth 100000 in
theorem vX9_nextWhole_5 {x : ab_Cx} {d mc ms : Nat} {Post : Option ab_V → List ab_Ob → Prop} (hx : ab_At x mX9_nextWhole d mc ms Post) (w0 : ab_Ob) (kc ks : Nat)
    (h : (∃ Q1 : Option ab_V → List ab_Ob → Prop, ab_Ct d 0 0 mX9_byteAt [ab_O 0, ab_I (w0.1 19)] [w0] Q1 ∧ (∀ r2 : Int, Q1 (some (ab_I r2)) [w0] → (∃ Q3 : Option ab_V → List ab_Ob → Prop, ab_Ct d 0 0 mX9_in [ab_I r2, ab_I 48, ab_I 57] [] Q3 ∧ (∀ r4 : Int, Q3 (some (ab_I r4)) [] → ((r4 = 0 → ((-2147483648 ≤ (w0.1 19) - (w0.1 21) ∧ (w0.1 19) - (w0.1 21) ≤ 2147483647) ∧ ((((w0.1 19) - (w0.1 21)) ≤ 2 → Post none [(ab_pf w0 20 3)]) ∧ (¬ ((w0.1 19) - (w0.1 21)) ≤ 2 → Post none [(ab_pf w0 20 0)])))) ∧ (¬ r4 = 0 → ((-2147483648 ≤ (w0.1 19) - (w0.1 21) ∧ (w0.1 19) - (w0.1 21) ≤ 2147483647) ∧ ((2 ≤ ((w0.1 19) - (w0.1 21)) → ((-2147483648 ≤ (w0.1 19) + 1 ∧ (w0.1 19) + 1 ≤ 2147483647) ∧ ab_J x 5 [some (ab_O 0)] [] [(ab_pf w0 19 ((w0.1 19) + 1))] kc ks)) ∧ (¬ 2 ≤ ((w0.1 19) - (w0.1 21)) → ((-2147483648 ≤ 10 * (w0.1 22) ∧ 10 * (w0.1 22) ≤ 2147483647) ∧ (∃ Q5 : Option ab_V → List ab_Ob → Prop, ab_Ct d 0 0 mX9_byteAt [ab_O 0, ab_I (w0.1 19)] [w0] Q5 ∧ (∀ r6 : Int, Q5 (some (ab_I r6)) [w0] → ((-2147483648 ≤ (10 * (w0.1 22)) + r6 ∧ (10 * (w0.1 22)) + r6 ≤ 2147483647) ∧ ((-2147483648 ≤ ((10 * (w0.1 22)) + r6) - 48 ∧ ((10 * (w0.1 22)) + r6) - 48 ≤ 2147483647) ∧ ((-2147483648 ≤ (w0.1 19) + 1 ∧ (w0.1 19) + 1 ≤ 2147483647) ∧ ab_J x 5 [some (ab_O 0)] [] [(ab_pf (ab_pf w0 22 (((10 * (w0.1 22)) + r6) - 48)) 19 ((w0.1 19) + 1))] kc ks)))))))))))))))) :
    ab_J x 5 [some (ab_O 0)] [] [w0] kc ks := ab_go hx kX9_nextWhole.2 40 [(5, [true])] 5 h
def mX9_next : ab_M := ((yX9_next, cX9_next, 2, none), ([9], [(0, 0)], [true], false, false, 0), (false, 9, 0))
def rX9_next : List ab_R := [(0, .aload_n 0, 1, 0, 0, 0, [], none),
  (1, .getfield 109, 3, 9, 23, 0, [], none),
  (4, .ifCond .le 4, 3, 0, 0, 0, [8], none),
  (7, .return_, 1, 0, 0, 0, [], none),
  (8, .aload_n 0, 1, 0, 0, 0, [], none),
  (9, .aload_n 0, 1, 0, 0, 0, [], none),
  (10, .getfield 112, 3, 9, 19, 0, [], none),
  (13, .invokevirtual 115, 3, 0, 0, 0, [], some mX9_byteAt),
  (16, .bipush 32, 2, 0, 0, 0, [], none),
  (18, .if_icmp .ne 16, 3, 0, 0, 0, [34], none),
  (21, .aload_n 0, 1, 0, 0, 0, [], none),
  (22, .dup, 1, 0, 0, 0, [], none),
  (23, .getfield 112, 3, 9, 19, 0, [], none),
  (26, .iconst 1, 1, 0, 0, 0, [], none),
  (27, .iadd, 1, 0, 0, 0, [], none),
  (28, .putfield 112, 3, 9, 19, 0, [], none),
  (31, .goto (-23), 3, 0, 0, 0, [8], none),
  (34, .aload_n 0, 1, 0, 0, 0, [], none),
  (35, .aload_n 0, 1, 0, 0, 0, [], none),
  (36, .getfield 112, 3, 9, 19, 0, [], none),
  (39, .putfield 119, 3, 9, 21, 0, [], none),
  (42, .aload_n 0, 1, 0, 0, 0, [], none),
  (43, .aload_n 0, 1, 0, 0, 0, [], none),
  (44, .getfield 112, 3, 9, 19, 0, [], none),
  (47, .invokevirtual 115, 3, 0, 0, 0, [], some mX9_byteAt),
  (50, .istore_n 1, 1, 0, 0, 0, [], none),
  (51, .iload_n 1, 1, 0, 0, 0, [], none),
  (52, .iconst (-1), 1, 0, 0, 0, [], none),
  (53, .if_icmp .ne 11, 3, 0, 0, 0, [64], none),
  (56, .aload_n 0, 1, 0, 0, 0, [], none),
  (57, .iconst 1, 1, 0, 0, 0, [], none),
  (58, .putfield 122, 3, 9, 20, 0, [], none),
  (61, .goto 64, 3, 0, 0, 0, [125], none),
  (64, .iload_n 1, 1, 0, 0, 0, [], none),
  (65, .bipush 97, 2, 0, 0, 0, [], none),
  (67, .bipush 122, 2, 0, 0, 0, [], none),
  (69, .invokestatic 125, 3, 0, 0, 0, [], some mX9_in),
  (72, .ifCond .eq 10, 3, 0, 0, 0, [82], none),
  (75, .aload_n 0, 1, 0, 0, 0, [], none),
  (76, .invokevirtual 129, 3, 0, 0, 0, [], some mX9_nextWord),
  (79, .goto 46, 3, 0, 0, 0, [125], none),
  (82, .iload_n 1, 1, 0, 0, 0, [], none),
  (83, .bipush 48, 2, 0, 0, 0, [], none),
  (85, .bipush 57, 2, 0, 0, 0, [], none),
  (87, .invokestatic 125, 3, 0, 0, 0, [], some mX9_in),
  (90, .ifCond .eq 10, 3, 0, 0, 0, [100], none),
  (93, .aload_n 0, 1, 0, 0, 0, [], none),
  (94, .invokevirtual 132, 3, 0, 0, 0, [], some mX9_nextWhole),
  (97, .goto 28, 3, 0, 0, 0, [125], none),
  (100, .aload_n 0, 1, 0, 0, 0, [], none),
  (101, .iload_n 1, 1, 0, 0, 0, [], none),
  (102, .bipush 59, 2, 0, 0, 0, [], none),
  (104, .if_icmp .ne 7, 3, 0, 0, 0, [111], none),
  (107, .iconst 4, 1, 0, 0, 0, [], none),
  (108, .goto 4, 3, 0, 0, 0, [112], none),
  (111, .iconst 0, 1, 0, 0, 0, [], none),
  (112, .putfield 122, 3, 9, 20, 0, [], none),
  (115, .aload_n 0, 1, 0, 0, 0, [], none),
  (116, .dup, 1, 0, 0, 0, [], none),
  (117, .getfield 112, 3, 9, 19, 0, [], none),
  (120, .iconst 1, 1, 0, 0, 0, [], none),
  (121, .iadd, 1, 0, 0, 0, [], none),
  (122, .putfield 112, 3, 9, 19, 0, [], none),
  (125, .return_, 1, 0, 0, 0, [], none)]
set_option maxRecDepth 100000 in
theorem kX9_next : ab_def_ok mX9_next rX9_next := ⟨ab_mok_of 1372 108 1371 46 (by decide +kernel), [0, 1215, 0, 0, 0, 0, 1211, 1373, 0, 0, 0, 0, 1211, 0, 0, 1211, 0, 0, 0, 1211, 1213, 0, 0, 1211, 1373, 0, 0, 0, 0, 0, 0, 1212, 0, 0, 0, 0, 1377, 0, 0, 1380, 0, 0, 0, 0, 1377, 0, 0, 1384, 0, 0, 0, 0, 0, 0, 0, 0, 1212, 0, 0, 1211, 0, 0, 1211, 0], by decide +kernel⟩
set_option maxRecDepth 100000 in
theorem vX9_next_0 {x : ab_Cx} {d mc ms : Nat} {Post : Option ab_V → List ab_Ob → Prop} (hx : ab_At x mX9_next d mc ms Post) (w0 : ab_Ob) (kc ks : Nat)
    (h : (((w0.1 23) ≤ 0 → ab_J x 8 [some (ab_O 0), none] [] [w0] kc ks) ∧ (¬ (w0.1 23) ≤ 0 → Post none [w0]))) :
    ab_J x 0 [some (ab_O 0), none] [] [w0] kc ks := ab_go hx kX9_next.2 8 [(8, [true, false])] 0 h
set_option maxRecDepth 100000 in
theorem vX9_next_8 {x : ab_Cx} {d mc ms : Nat} {Post : Option ab_V → List ab_Ob → Prop} (hx : ab_At x mX9_next d mc ms Post) (w0 : ab_Ob) (kc ks : Nat)
    (h : (∃ Q1 : Option ab_V → List ab_Ob → Prop, ab_Ct d 0 0 mX9_byteAt [ab_O 0, ab_I (w0.1 19)] [w0] Q1 ∧ (∀ r2 : Int, Q1 (some (ab_I r2)) [w0] → ((¬ r2 = 32 → (∃ Q3 : Option ab_V → List ab_Ob → Prop, ab_Ct d 0 0 mX9_byteAt [ab_O 0, ab_I (w0.1 19)] [(ab_pf w0 21 (w0.1 19))] Q3 ∧ (∀ r4 : Int, Q3 (some (ab_I r4)) [(ab_pf w0 21 (w0.1 19))] → ((¬ r4 = (-1) → (∃ Q5 : Option ab_V → List ab_Ob → Prop, ab_Ct d 0 0 mX9_in [ab_I r4, ab_I 97, ab_I 122] [] Q5 ∧ (∀ r6 : Int, Q5 (some (ab_I r6)) [] → ((r6 = 0 → (∃ Q7 : Option ab_V → List ab_Ob → Prop, ab_Ct d 0 0 mX9_in [ab_I r4, ab_I 48, ab_I 57] [] Q7 ∧ (∀ r8 : Int, Q7 (some (ab_I r8)) [] → ((r8 = 0 → ((¬ r4 = 59 → ((-2147483648 ≤ (w0.1 19) + 1 ∧ (w0.1 19) + 1 ≤ 2147483647) ∧ Post none [(ab_pf (ab_pf (ab_pf w0 21 (w0.1 19)) 20 0) 19 ((w0.1 19) + 1))])) ∧ (r4 = 59 → ((-2147483648 ≤ (w0.1 19) + 1 ∧ (w0.1 19) + 1 ≤ 2147483647) ∧ Post none [(ab_pf (ab_pf (ab_pf w0 21 (w0.1 19)) 20 4) 19 ((w0.1 19) + 1))])))) ∧ (¬ r8 = 0 → (∃ Q9 : Option ab_V → List ab_Ob → Prop, ab_Ct d 0 0 mX9_nextWhole [ab_O 0] [(ab_pf w0 21 (w0.1 19))] Q9 ∧ (∀ v10 : ab_Ob, Q9 none [v10] → Post none [v10]))))))) ∧ (¬ r6 = 0 → (∃ Q11 : Option ab_V → List ab_Ob → Prop, ab_Ct d 0 0 mX9_nextWord [ab_O 0] [(ab_pf w0 21 (w0.1 19))] Q11 ∧ (∀ v12 : ab_Ob, Q11 none [v12] → Post none [v12]))))))) ∧ (r4 = (-1) → Post none [(ab_pf (ab_pf w0 21 (w0.1 19)) 20 1)]))))) ∧ (r2 = 32 → ((-2147483648 ≤ (w0.1 19) + 1 ∧ (w0.1 19) + 1 ≤ 2147483647) ∧ ab_J x 8 [some (ab_O 0), none] [] [(ab_pf w0 19 ((w0.1 19) + 1))] kc ks)))))) :
    ab_J x 8 [some (ab_O 0), none] [] [w0] kc ks := ab_go hx kX9_next.2 46 [(8, [true, false])] 8 h
def mX9_flaw : ab_M := ((yX9_flaw, cX9_flaw, 2, none), ([9], [(0, 0)], [true], false, false, 0), (false, 9, 1))
def rX9_flaw : List ab_R := [(0, .aload_n 0, 1, 0, 0, 0, [], none),
  (1, .getfield 109, 3, 9, 23, 0, [], none),
  (4, .ifCond .ne 8, 3, 0, 0, 0, [12], none),
  (7, .aload_n 0, 1, 0, 0, 0, [], none),
  (8, .iload_n 1, 1, 0, 0, 0, [], none),
  (9, .putfield 109, 3, 9, 23, 0, [], none),
  (12, .aload_n 0, 1, 0, 0, 0, [], none),
  (13, .iconst 0, 1, 0, 0, 0, [], none),
  (14, .putfield 122, 3, 9, 20, 0, [], none),
  (17, .return_, 1, 0, 0, 0, [], none)]
set_option maxRecDepth 100000 in
theorem kX9_flaw : ab_def_ok mX9_flaw rX9_flaw := ⟨ab_mok_of 1406 108 1405 53 (by decide +kernel), [0, 1215, 0, 0, 0, 1215, 0, 0, 1212, 0], by decide +kernel⟩
set_option maxRecDepth 100000 in
theorem vX9_flaw_0 {x : ab_Cx} {d mc ms : Nat} {Post : Option ab_V → List ab_Ob → Prop} (hx : ab_At x mX9_flaw d mc ms Post) (a1 : Int) (w0 : ab_Ob) (kc ks : Nat)
    (h : ((¬ (w0.1 23) = 0 → Post none [(ab_pf w0 20 0)]) ∧ ((w0.1 23) = 0 → Post none [(ab_pf (ab_pf w0 23 a1) 20 0)]))) :
    ab_J x 0 [some (ab_O 0), some (ab_I a1)] [] [w0] kc ks := ab_go hx kX9_flaw.2 14 [] 0 h
def mX9_isWord : ab_M := ((yX9_isWord, cX9_isWord, 5, (some .boolean)), ([9], [(0, 0)], [false], false, false, 0), (false, 9, 1))
def rX9_isWord : List ab_R := [(0, .lconst 0, 1, 0, 0, 0, [], none),
  (1, .lstore_n 2, 1, 0, 0, 0, [], none),
  (2, .iconst 0, 1, 0, 0, 0, [], none),
  (3, .istore 4, 2, 0, 0, 0, [], none),
  (5, .iload 4, 2, 0, 0, 0, [], none),
  (7, .aload_n 1, 1, 0, 0, 0, [], none),
  (8, .invokevirtual 142, 3, 0, 0, 0, [], some mJ_length),
  (11, .if_icmp .ge 22, 3, 0, 0, 0, [33], none),
  (14, .lload_n 2, 1, 0, 0, 0, [], none),
  (15, .bipush 8, 2, 0, 0, 0, [], none),
  (17, .lshl, 1, 0, 0, 0, [], none),
  (18, .aload_n 1, 1, 0, 0, 0, [], none),
  (19, .iload 4, 2, 0, 0, 0, [], none),
  (21, .invokevirtual 148, 3, 0, 0, 0, [], some mJ_charAt),
  (24, .i2l, 1, 0, 0, 0, [], none),
  (25, .lor, 1, 0, 0, 0, [], none),
  (26, .lstore_n 2, 1, 0, 0, 0, [], none),
  (27, .iinc 4 1, 3, 0, 0, 0, [], none),
  (30, .goto (-25), 3, 0, 0, 0, [5], none),
  (33, .aload_n 0, 1, 0, 0, 0, [], none),
  (34, .getfield 122, 3, 9, 20, 0, [], none),
  (37, .iconst 2, 1, 0, 0, 0, [], none),
  (38, .if_icmp .ne 16, 3, 0, 0, 0, [54], none),
  (41, .aload_n 0, 1, 0, 0, 0, [], none),
  (42, .getfield 135, 3, 9, 24, 0, [], none),
  (45, .lload_n 2, 1, 0, 0, 0, [], none),
  (46, .lcmp, 1, 0, 0, 0, [], none),
  (47, .ifCond .ne 7, 3, 0, 0, 0, [54], none),
  (50, .iconst 1, 1, 0, 0, 0, [], none),
  (51, .goto 4, 3, 0, 0, 0, [55], none),
  (54, .iconst 0, 1, 0, 0, 0, [], none),
  (55, .ireturn, 1, 0, 0, 0, [], none)]
set_option maxRecDepth 100000 in
theorem kX9_isWord : ab_def_ok mX9_isWord rX9_isWord := ⟨ab_mok_of 1396 108 1395 51 (by decide +kernel), [0, 0, 0, 0, 0, 0, 1397, 0, 0, 0, 0, 0, 0, 1398, 0, 0, 0, 0, 0, 0, 1212, 0, 0, 0, 1216, 0, 0, 0, 0, 0, 0, 0], by decide +kernel⟩
set_option maxRecDepth 100000 in
theorem vX9_isWord_0 {x : ab_Cx} {d mc ms : Nat} {Post : Option ab_V → List ab_Ob → Prop} (hx : ab_At x mX9_isWord d mc ms Post) (n1 : Nat) (w0 : ab_Ob) (kc ks : Nat)
    (h : ab_J x 5 [some (ab_O 0), some (ab_S n1), some (ab_L 0), none, some (ab_I 0)] [] [w0] kc ks) :
    ab_J x 0 [some (ab_O 0), some (ab_S n1), none, none, none] [] [w0] kc ks := ab_go hx kX9_isWord.2 9 [(5, [true, true, true, false, true])] 0 h
set_option maxRecDepth 100000 in
theorem vX9_isWord_5 {x : ab_Cx} {d mc ms : Nat} {Post : Option ab_V → List ab_Ob → Prop} (hx : ab_At x mX9_isWord d mc ms Post) (l2 l4 : Int) (n1 : Nat) (w0 : ab_Ob) (kc ks : Nat)
    (h : (n1 < 12 ∧ ∃ Q1 : Option ab_V → List ab_Ob → Prop, ab_Ct d 0 0 mJ_length [ab_S n1] [] Q1 ∧ (∀ r2 : Int, Q1 (some (ab_I r2)) [] → ((r2 ≤ l4 → ((¬ (w0.1 20) = 2 → (((0 : Int) = 0 ∨ (0 : Int) = 1) ∧ Post (some (ab_I 0)) [w0])) ∧ ((w0.1 20) = 2 → ((¬ (ab_cmp (w0.1 24) l2) = 0 → (((0 : Int) = 0 ∨ (0 : Int) = 1) ∧ Post (some (ab_I 0)) [w0])) ∧ ((ab_cmp (w0.1 24) l2) = 0 → (((1 : Int) = 0 ∨ (1 : Int) = 1) ∧ Post (some (ab_I 1)) [w0])))))) ∧ (¬ r2 ≤ l4 → (n1 < 12 ∧ ∃ Q3 : Option ab_V → List ab_Ob → Prop, ab_Ct d 0 0 mJ_charAt [ab_S n1, ab_I l4] [] Q3 ∧ (∀ r4 : Int, Q3 (some (ab_I r4)) [] → ((-2147483648 ≤ l4 + 1 ∧ l4 + 1 ≤ 2147483647) ∧ ab_J x 5 [some (ab_O 0), some (ab_S n1), some (ab_L ((Int64.ofInt ((Int64.ofInt l2 <<< ((Int32.ofInt 8).toInt64 &&& 63)).toInt) ||| Int64.ofInt r4).toInt)), none, some (ab_I (l4 + 1))] [] [w0] kc ks)))))))) :
    ab_J x 5 [some (ab_O 0), some (ab_S n1), some (ab_L l2), none, some (ab_I l4)] [] [w0] kc ks := ab_go hx kX9_isWord.2 20 [(5, [true, true, true, false, true])] 5 h
def mX9_readWhole : ab_M := ((yX9_readWhole, cX9_readWhole, 4, (some .int)), ([9], [(0, 0)], [true], false, false, 0), (false, 9, 2))
def rX9_readWhole : List ab_R := [(0, .aload_n 0, 1, 0, 0, 0, [], none),
  (1, .getfield 122, 3, 9, 20, 0, [], none),
  (4, .iconst 3, 1, 0, 0, 0, [], none),
  (5, .if_icmp .eq 11, 3, 0, 0, 0, [16], none),
  (8, .aload_n 0, 1, 0, 0, 0, [], none),
  (9, .iconst 1, 1, 0, 0, 0, [], none),
  (10, .invokevirtual 152, 3, 0, 0, 0, [], some mX9_flaw),
  (13, .goto 20, 3, 0, 0, 0, [33], none),
  (16, .aload_n 0, 1, 0, 0, 0, [], none),
  (17, .getfield 139, 3, 9, 22, 0, [], none),
  (20, .iload_n 1, 1, 0, 0, 0, [], none),
  (21, .iload_n 2, 1, 0, 0, 0, [], none),
  (22, .invokestatic 125, 3, 0, 0, 0, [], some mX9_in),
  (25, .ifCond .ne 8, 3, 0, 0, 0, [33], none),
  (28, .aload_n 0, 1, 0, 0, 0, [], none),
  (29, .iconst 2, 1, 0, 0, 0, [], none),
  (30, .invokevirtual 152, 3, 0, 0, 0, [], some mX9_flaw),
  (33, .aload_n 0, 1, 0, 0, 0, [], none),
  (34, .getfield 139, 3, 9, 22, 0, [], none),
  (37, .istore_n 3, 1, 0, 0, 0, [], none),
  (38, .aload_n 0, 1, 0, 0, 0, [], none),
  (39, .invokevirtual 156, 3, 0, 0, 0, [], some mX9_next),
  (42, .aload_n 0, 1, 0, 0, 0, [], none),
  (43, .getfield 109, 3, 9, 23, 0, [], none),
  (46, .ifCond .le 7, 3, 0, 0, 0, [53], none),
  (49, .iload_n 1, 1, 0, 0, 0, [], none),
  (50, .goto 4, 3, 0, 0, 0, [54], none),
  (53, .iload_n 3, 1, 0, 0, 0, [], none),
  (54, .ireturn, 1, 0, 0, 0, [], none)]
set_option maxRecDepth 100000 in
theorem kX9_readWhole : ab_def_ok mX9_readWhole rX9_readWhole := ⟨ab_mok_of 1415 108 1414 55 (by decide +kernel), [0, 1212, 0, 0, 0, 0, 1403, 0, 0, 1214, 0, 0, 1377, 0, 0, 0, 1403, 0, 1214, 0, 0, 1369, 0, 1215, 0, 0, 0, 0, 0], by decide +kernel⟩
set_option maxRecDepth 100000 in
theorem vX9_readWhole_0 {x : ab_Cx} {d mc ms : Nat} {Post : Option ab_V → List ab_Ob → Prop} (hx : ab_At x mX9_readWhole d mc ms Post) (a1 a2 : Int) (w0 : ab_Ob) (kc ks : Nat)
    (h : (((w0.1 20) = 3 → (∃ Q1 : Option ab_V → List ab_Ob → Prop, ab_Ct d 0 0 mX9_in [ab_I (w0.1 22), ab_I a1, ab_I a2] [] Q1 ∧ (∀ r2 : Int, Q1 (some (ab_I r2)) [] → ((¬ r2 = 0 → (∃ Q3 : Option ab_V → List ab_Ob → Prop, ab_Ct d 0 0 mX9_next [ab_O 0] [w0] Q3 ∧ (∀ v4 : ab_Ob, Q3 none [v4] → (((v4.1 23) ≤ 0 → Post (some (ab_I (w0.1 22))) [v4]) ∧ (¬ (v4.1 23) ≤ 0 → Post (some (ab_I a1)) [v4]))))) ∧ (r2 = 0 → (∃ Q5 : Option ab_V → List ab_Ob → Prop, ab_Ct d 0 0 mX9_flaw [ab_O 0, ab_I 2] [w0] Q5 ∧ (∀ v6 : ab_Ob, Q5 none [v6] → (∃ Q7 : Option ab_V → List ab_Ob → Prop, ab_Ct d 0 0 mX9_next [ab_O 0] [v6] Q7 ∧ (∀ v8 : ab_Ob, Q7 none [v8] → (((v8.1 23) ≤ 0 → Post (some (ab_I (v6.1 22))) [v8]) ∧ (¬ (v8.1 23) ≤ 0 → Post (some (ab_I a1)) [v8]))))))))))) ∧ (¬ (w0.1 20) = 3 → (∃ Q9 : Option ab_V → List ab_Ob → Prop, ab_Ct d 0 0 mX9_flaw [ab_O 0, ab_I 1] [w0] Q9 ∧ (∀ v10 : ab_Ob, Q9 none [v10] → (∃ Q11 : Option ab_V → List ab_Ob → Prop, ab_Ct d 0 0 mX9_next [ab_O 0] [v10] Q11 ∧ (∀ v12 : ab_Ob, Q11 none [v12] → (((v12.1 23) ≤ 0 → Post (some (ab_I (v10.1 22))) [v12]) ∧ (¬ (v12.1 23) ≤ 0 → Post (some (ab_I a1)) [v12]))))))))) :
    ab_J x 0 [some (ab_O 0), some (ab_I a1), some (ab_I a2), none] [] [w0] kc ks := ab_go hx kX9_readWhole.2 28 [] 0 h
def mX9_readPart : ab_M := ((yX9_readPart, cX9_readPart, 4, (some .int)), ([9], [(0, 0)], [true], false, false, 0), (false, 9, 3))
def rX9_readPart : List ab_R := [(0, .aload_n 0, 1, 0, 0, 0, [], none),
  (1, .aload_n 1, 1, 0, 0, 0, [], none),
  (2, .invokevirtual 159, 3, 0, 0, 0, [], some mX9_isWord),
  (5, .ifCond .ne 8, 3, 0, 0, 0, [13], none),
  (8, .aload_n 0, 1, 0, 0, 0, [], none),
  (9, .iconst 1, 1, 0, 0, 0, [], none),
  (10, .invokevirtual 152, 3, 0, 0, 0, [], some mX9_flaw),
  (13, .aload_n 0, 1, 0, 0, 0, [], none),
  (14, .invokevirtual 156, 3, 0, 0, 0, [], some mX9_next),
  (17, .aload_n 0, 1, 0, 0, 0, [], none),
  (18, .iload_n 2, 1, 0, 0, 0, [], none),
  (19, .iload_n 3, 1, 0, 0, 0, [], none),
  (20, .invokevirtual 163, 3, 0, 0, 0, [], some mX9_readWhole),
  (23, .ireturn, 1, 0, 0, 0, [], none)]
set_option maxRecDepth 100000 in
theorem kX9_readPart : ab_def_ok mX9_readPart rX9_readPart := ⟨ab_mok_of 1411 108 1410 54 (by decide +kernel), [0, 0, 1393, 0, 0, 0, 1403, 0, 1369, 0, 0, 0, 1412, 0], by decide +kernel⟩
set_option maxRecDepth 100000 in
theorem vX9_readPart_0 {x : ab_Cx} {d mc ms : Nat} {Post : Option ab_V → List ab_Ob → Prop} (hx : ab_At x mX9_readPart d mc ms Post) (a2 a3 : Int) (n1 : Nat) (w0 : ab_Ob) (kc ks : Nat)
    (h : (∃ Q1 : Option ab_V → List ab_Ob → Prop, ab_Ct d 0 0 mX9_isWord [ab_O 0, ab_S n1] [w0] Q1 ∧ (∀ r2 : Int, Q1 (some (ab_I r2)) [w0] → ((¬ r2 = 0 → (∃ Q3 : Option ab_V → List ab_Ob → Prop, ab_Ct d 0 0 mX9_next [ab_O 0] [w0] Q3 ∧ (∀ v4 : ab_Ob, Q3 none [v4] → (∃ Q5 : Option ab_V → List ab_Ob → Prop, ab_Ct d 0 0 mX9_readWhole [ab_O 0, ab_I a2, ab_I a3] [v4] Q5 ∧ (∀ r6 : Int, ∀ v7 : ab_Ob, Q5 (some (ab_I r6)) [v7] → Post (some (ab_I r6)) [v7]))))) ∧ (r2 = 0 → (∃ Q8 : Option ab_V → List ab_Ob → Prop, ab_Ct d 0 0 mX9_flaw [ab_O 0, ab_I 1] [w0] Q8 ∧ (∀ v9 : ab_Ob, Q8 none [v9] → (∃ Q10 : Option ab_V → List ab_Ob → Prop, ab_Ct d 0 0 mX9_next [ab_O 0] [v9] Q10 ∧ (∀ v11 : ab_Ob, Q10 none [v11] → (∃ Q12 : Option ab_V → List ab_Ob → Prop, ab_Ct d 0 0 mX9_readWhole [ab_O 0, ab_I a2, ab_I a3] [v11] Q12 ∧ (∀ r13 : Int, ∀ v14 : ab_Ob, Q12 (some (ab_I r13)) [v14] → Post (some (ab_I r13)) [v14]))))))))))) :
    ab_J x 0 [some (ab_O 0), some (ab_S n1), some (ab_I a2), some (ab_I a3)] [] [w0] kc ks := ab_go hx kX9_readPart.2 18 [] 0 h
def mX9_readPiece : ab_M := ((yX9_readPiece, cX9_readPiece, 2, none), ([9], [(0, 0)], [true], false, false, 0), (false, 9, 0))
def rX9_readPiece : List ab_R := [(0, .aload_n 0, 1, 0, 0, 0, [], none),
  (1, .getfield 167, 3, 9, 10, 0, [], none),
  (4, .ifCond .le 8, 3, 0, 0, 0, [12], none),
  (7, .aload_n 0, 1, 0, 0, 0, [], none),
  (8, .iconst 3, 1, 0, 0, 0, [], none),
  (9, .invokevirtual 152, 3, 0, 0, 0, [], some mX9_flaw),
  (12, .aload_n 0, 1, 0, 0, 0, [], none),
  (13, .invokevirtual 156, 3, 0, 0, 0, [], some mX9_next),
  (16, .aload_n 0, 1, 0, 0, 0, [], none),
  (17, .ldc 194, 2, 0, 3, 1, [], none),
  (19, .iconst 1, 1, 0, 0, 0, [], none),
  (20, .bipush 64, 2, 0, 0, 0, [], none),
  (22, .invokevirtual 196, 3, 0, 0, 0, [], some mX9_readPart),
  (25, .istore_n 1, 1, 0, 0, 0, [], none),
  (26, .aload_n 0, 1, 0, 0, 0, [], none),
  (27, .aload_n 0, 1, 0, 0, 0, [], none),
  (28, .ldc 200, 2, 0, 4, 1, [], none),
  (30, .iconst 1, 1, 0, 0, 0, [], none),
  (31, .iload_n 1, 1, 0, 0, 0, [], none),
  (32, .invokevirtual 196, 3, 0, 0, 0, [], some mX9_readPart),
  (35, .putfield 202, 3, 9, 11, 0, [], none),
  (38, .aload_n 0, 1, 0, 0, 0, [], none),
  (39, .getfield 17, 3, 9, 4, 0, [], none),
  (42, .bipush 54, 2, 0, 0, 0, [], none),
  (44, .aload_n 0, 1, 0, 0, 0, [], none),
  (45, .ldc 205, 2, 0, 5, 1, [], none),
  (47, .iconst 0, 1, 0, 0, 0, [], none),
  (48, .bipush 11, 2, 0, 0, 0, [], none),
  (50, .invokevirtual 196, 3, 0, 0, 0, [], some mX9_readPart),
  (53, .iastore, 1, 0, 0, 0, [], none),
  (54, .aload_n 0, 1, 0, 0, 0, [], none),
  (55, .getfield 109, 3, 9, 23, 0, [], none),
  (58, .ifCond .ne 8, 3, 0, 0, 0, [66], none),
  (61, .aload_n 0, 1, 0, 0, 0, [], none),
  (62, .iload_n 1, 1, 0, 0, 0, [], none),
  (63, .putfield 167, 3, 9, 10, 0, [], none),
  (66, .return_, 1, 0, 0, 0, [], none)]
set_option maxRecDepth 100000 in
theorem kX9_readPiece : ab_def_ok mX9_readPiece rX9_readPiece := ⟨ab_mok_of 1402 108 1401 52 (by decide +kernel), [0, 1202, 0, 0, 0, 1403, 0, 1369, 0, 0, 0, 0, 1408, 0, 0, 0, 0, 0, 0, 1408, 1203, 0, 1196, 0, 0, 0, 0, 0, 1408, 0, 0, 1215, 0, 0, 0, 1202, 0], by decide +kernel⟩
set_option maxRecDepth 100000 in
theorem vX9_readPiece_0 {x : ab_Cx} {d mc ms : Nat} {Post : Option ab_V → List ab_Ob → Prop} (hx : ab_At x mX9_readPiece d mc ms Post) (w0 : ab_Ob) (kc ks : Nat)
    (h : (((w0.1 10) ≤ 0 → (∃ Q1 : Option ab_V → List ab_Ob → Prop, ab_Ct d 0 0 mX9_next [ab_O 0] [w0] Q1 ∧ (∀ v2 : ab_Ob, Q1 none [v2] → (∃ Q3 : Option ab_V → List ab_Ob → Prop, ab_Ct d 0 0 mX9_readPart [ab_O 0, ab_S 3, ab_I 1, ab_I 64] [v2] Q3 ∧ (∀ r4 : Int, ∀ v5 : ab_Ob, Q3 (some (ab_I r4)) [v5] → (∃ Q6 : Option ab_V → List ab_Ob → Prop, ab_Ct d 0 0 mX9_readPart [ab_O 0, ab_S 4, ab_I 1, ab_I r4] [v5] Q6 ∧ (∀ r7 : Int, ∀ v8 : ab_Ob, Q6 (some (ab_I r7)) [v8] → (∃ Q9 : Option ab_V → List ab_Ob → Prop, ab_Ct d 0 0 mX9_readPart [ab_O 0, ab_S 5, ab_I 0, ab_I 11] [(ab_pf v8 11 r7)] Q9 ∧ (∀ r10 : Int, ∀ v11 : ab_Ob, Q9 (some (ab_I r10)) [v11] → ((0 ≤ (54 : Int) ∧ (54 : Int) < (v11.2 4).1) ∧ ((¬ (v11.1 23) = 0 → Post none [(ab_pa v11 4 54 r10)]) ∧ ((v11.1 23) = 0 → Post none [(ab_pf (ab_pa v11 4 54 r10) 10 r4)])))))))))))) ∧ (¬ (w0.1 10) ≤ 0 → (∃ Q12 : Option ab_V → List ab_Ob → Prop, ab_Ct d 0 0 mX9_flaw [ab_O 0, ab_I 3] [w0] Q12 ∧ (∀ v13 : ab_Ob, Q12 none [v13] → (∃ Q14 : Option ab_V → List ab_Ob → Prop, ab_Ct d 0 0 mX9_next [ab_O 0] [v13] Q14 ∧ (∀ v15 : ab_Ob, Q14 none [v15] → (∃ Q16 : Option ab_V → List ab_Ob → Prop, ab_Ct d 0 0 mX9_readPart [ab_O 0, ab_S 3, ab_I 1, ab_I 64] [v15] Q16 ∧ (∀ r17 : Int, ∀ v18 : ab_Ob, Q16 (some (ab_I r17)) [v18] → (∃ Q19 : Option ab_V → List ab_Ob → Prop, ab_Ct d 0 0 mX9_readPart [ab_O 0, ab_S 4, ab_I 1, ab_I r17] [v18] Q19 ∧ (∀ r20 : Int, ∀ v21 : ab_Ob, Q19 (some (ab_I r20)) [v21] → (∃ Q22 : Option ab_V → List ab_Ob → Prop, ab_Ct d 0 0 mX9_readPart [ab_O 0, ab_S 5, ab_I 0, ab_I 11] [(ab_pf v21 11 r20)] Q22 ∧ (∀ r23 : Int, ∀ v24 : ab_Ob, Q22 (some (ab_I r23)) [v24] → ((0 ≤ (54 : Int) ∧ (54 : Int) < (v24.2 4).1) ∧ ((¬ (v24.1 23) = 0 → Post none [(ab_pa v24 4 54 r23)]) ∧ ((v24.1 23) = 0 → Post none [(ab_pf (ab_pa v24 4 54 r23) 10 r17)])))))))))))))))) :
    ab_J x 0 [some (ab_O 0), none] [] [w0] kc ks := ab_go hx kX9_readPiece.2 41 [] 0 h
def mX9_begins : ab_M := ((yX9_begins, cX9_begins, 2, none), ([9], [(0, 0)], [true], false, false, 0), (false, 9, 1))
def rX9_begins : List ab_R := [(0, .iload_n 1, 1, 0, 0, 0, [], none),
  (1, .ifCond .eq 8, 3, 0, 0, 0, [9], none),
  (4, .aload_n 0, 1, 0, 0, 0, [], none),
  (5, .iconst 4, 1, 0, 0, 0, [], none),
  (6, .invokevirtual 152, 3, 0, 0, 0, [], some mX9_flaw),
  (9, .aload_n 0, 1, 0, 0, 0, [], none),
  (10, .getfield 167, 3, 9, 10, 0, [], none),
  (13, .ifCond .ne 8, 3, 0, 0, 0, [21], none),
  (16, .aload_n 0, 1, 0, 0, 0, [], none),
  (17, .iconst 5, 1, 0, 0, 0, [], none),
  (18, .invokevirtual 152, 3, 0, 0, 0, [], some mX9_flaw),
  (21, .aload_n 0, 1, 0, 0, 0, [], none),
  (22, .invokevirtual 156, 3, 0, 0, 0, [], some mX9_next),
  (25, .return_, 1, 0, 0, 0, [], none)]
set_option maxRecDepth 100000 in
theorem kX9_begins : ab_def_ok mX9_begins rX9_begins := ⟨ab_mok_of 1426 108 1425 57 (by decide +kernel), [0, 0, 0, 0, 1403, 0, 1202, 0, 0, 0, 1403, 0, 1369, 0], by decide +kernel⟩
set_option maxRecDepth 100000 in
theorem vX9_begins_0 {x : ab_Cx} {d mc ms : Nat} {Post : Option ab_V → List ab_Ob → Prop} (hx : ab_At x mX9_begins d mc ms Post) (a1 : Int) (w0 : ab_Ob) (kc ks : Nat)
    (h : ((a1 = 0 → ((¬ (w0.1 10) = 0 → (∃ Q1 : Option ab_V → List ab_Ob → Prop, ab_Ct d 0 0 mX9_next [ab_O 0] [w0] Q1 ∧ (∀ v2 : ab_Ob, Q1 none [v2] → Post none [v2]))) ∧ ((w0.1 10) = 0 → (∃ Q3 : Option ab_V → List ab_Ob → Prop, ab_Ct d 0 0 mX9_flaw [ab_O 0, ab_I 5] [w0] Q3 ∧ (∀ v4 : ab_Ob, Q3 none [v4] → (∃ Q5 : Option ab_V → List ab_Ob → Prop, ab_Ct d 0 0 mX9_next [ab_O 0] [v4] Q5 ∧ (∀ v6 : ab_Ob, Q5 none [v6] → Post none [v6]))))))) ∧ (¬ a1 = 0 → (∃ Q7 : Option ab_V → List ab_Ob → Prop, ab_Ct d 0 0 mX9_flaw [ab_O 0, ab_I 4] [w0] Q7 ∧ (∀ v8 : ab_Ob, Q7 none [v8] → ((¬ (v8.1 10) = 0 → (∃ Q9 : Option ab_V → List ab_Ob → Prop, ab_Ct d 0 0 mX9_next [ab_O 0] [v8] Q9 ∧ (∀ v10 : ab_Ob, Q9 none [v10] → Post none [v10]))) ∧ ((v8.1 10) = 0 → (∃ Q11 : Option ab_V → List ab_Ob → Prop, ab_Ct d 0 0 mX9_flaw [ab_O 0, ab_I 5] [v8] Q11 ∧ (∀ v12 : ab_Ob, Q11 none [v12] → (∃ Q13 : Option ab_V → List ab_Ob → Prop, ab_Ct d 0 0 mX9_next [ab_O 0] [v12] Q13 ∧ (∀ v14 : ab_Ob, Q13 none [v14] → Post none [v14]))))))))))) :
    ab_J x 0 [some (ab_O 0), some (ab_I a1)] [] [w0] kc ks := ab_go hx kX9_begins.2 18 [] 0 h
def mX9_readNote : ab_M := ((yX9_readNote, cX9_readNote, 3, none), ([9], [(0, 0)], [true], false, false, 0), (false, 9, 0))
def rX9_readNote : List ab_R := [(0, .aload_n 0, 1, 0, 0, 0, [], none),
  (1, .aload_n 0, 1, 0, 0, 0, [], none),
  (2, .getfield 170, 3, 9, 12, 0, [], none),
  (5, .bipush 24, 2, 0, 0, 0, [], none),
  (7, .if_icmp .ne 7, 3, 0, 0, 0, [14], none),
  (10, .iconst 1, 1, 0, 0, 0, [], none),
  (11, .goto 4, 3, 0, 0, 0, [15], none),
  (14, .iconst 0, 1, 0, 0, 0, [], none),
  (15, .invokevirtual 207, 3, 0, 0, 0, [], some mX9_begins),
  (18, .aload_n 0, 1, 0, 0, 0, [], none),
  (19, .iconst 0, 1, 0, 0, 0, [], none),
  (20, .bipush 99, 2, 0, 0, 0, [], none),
  (22, .invokevirtual 163, 3, 0, 0, 0, [], some mX9_readWhole),
  (25, .istore_n 1, 1, 0, 0, 0, [], none),
  (26, .aload_n 0, 1, 0, 0, 0, [], none),
  (27, .ldc 211, 2, 0, 6, 1, [], none),
  (29, .iconst 1, 1, 0, 0, 0, [], none),
  (30, .bipush 64, 2, 0, 0, 0, [], none),
  (32, .invokevirtual 196, 3, 0, 0, 0, [], some mX9_readPart),
  (35, .istore_n 2, 1, 0, 0, 0, [], none),
  (36, .aload_n 0, 1, 0, 0, 0, [], none),
  (37, .getfield 109, 3, 9, 23, 0, [], none),
  (40, .ifCond .le 4, 3, 0, 0, 0, [44], none),
  (43, .return_, 1, 0, 0, 0, [], none),
  (44, .aload_n 0, 1, 0, 0, 0, [], none),
  (45, .getfield 17, 3, 9, 4, 0, [], none),
  (48, .iconst 0, 1, 0, 0, 0, [], none),
  (49, .aload_n 0, 1, 0, 0, 0, [], none),
  (50, .getfield 170, 3, 9, 12, 0, [], none),
  (53, .iadd, 1, 0, 0, 0, [], none),
  (54, .iload_n 1, 1, 0, 0, 0, [], none),
  (55, .iastore, 1, 0, 0, 0, [], none),
  (56, .aload_n 0, 1, 0, 0, 0, [], none),
  (57, .getfield 17, 3, 9, 4, 0, [], none),
  (60, .bipush 24, 2, 0, 0, 0, [], none),
  (62, .aload_n 0, 1, 0, 0, 0, [], none),
  (63, .getfield 170, 3, 9, 12, 0, [], none),
  (66, .iadd, 1, 0, 0, 0, [], none),
  (67, .iload_n 2, 1, 0, 0, 0, [], none),
  (68, .iastore, 1, 0, 0, 0, [], none),
  (69, .aload_n 0, 1, 0, 0, 0, [], none),
  (70, .dup, 1, 0, 0, 0, [], none),
  (71, .getfield 170, 3, 9, 12, 0, [], none),
  (74, .iconst 1, 1, 0, 0, 0, [], none),
  (75, .iadd, 1, 0, 0, 0, [], none),
  (76, .putfield 170, 3, 9, 12, 0, [], none),
  (79, .return_, 1, 0, 0, 0, [], none)]
set_option maxRecDepth 100000 in
theorem kX9_readNote : ab_def_ok mX9_readNote rX9_readNote := ⟨ab_mok_of 1422 108 1421 56 (by decide +kernel), [0, 0, 1204, 0, 0, 0, 0, 0, 1423, 0, 0, 0, 1412, 0, 0, 0, 0, 0, 1408, 0, 0, 1215, 0, 0, 0, 1196, 0, 0, 1204, 0, 0, 0, 0, 1196, 0, 0, 1204, 0, 0, 0, 0, 0, 1204, 0, 0, 1204, 0], by decide +kernel⟩
set_option maxRecDepth 100000 in
theorem vX9_readNote_0 {x : ab_Cx} {d mc ms : Nat} {Post : Option ab_V → List ab_Ob → Prop} (hx : ab_At x mX9_readNote d mc ms Post) (w0 : ab_Ob) (kc ks : Nat)
    (h : ((¬ (w0.1 12) = 24 → (∃ Q1 : Option ab_V → List ab_Ob → Prop, ab_Ct d 0 0 mX9_begins [ab_O 0, ab_I 0] [w0] Q1 ∧ (∀ v2 : ab_Ob, Q1 none [v2] → (∃ Q3 : Option ab_V → List ab_Ob → Prop, ab_Ct d 0 0 mX9_readWhole [ab_O 0, ab_I 0, ab_I 99] [v2] Q3 ∧ (∀ r4 : Int, ∀ v5 : ab_Ob, Q3 (some (ab_I r4)) [v5] → (∃ Q6 : Option ab_V → List ab_Ob → Prop, ab_Ct d 0 0 mX9_readPart [ab_O 0, ab_S 6, ab_I 1, ab_I 64] [v5] Q6 ∧ (∀ r7 : Int, ∀ v8 : ab_Ob, Q6 (some (ab_I r7)) [v8] → (((v8.1 23) ≤ 0 → ((-2147483648 ≤ 0 + (v8.1 12) ∧ 0 + (v8.1 12) ≤ 2147483647) ∧ ((0 ≤ (0 + (v8.1 12)) ∧ (0 + (v8.1 12)) < (v8.2 4).1) ∧ ((-2147483648 ≤ 24 + (v8.1 12) ∧ 24 + (v8.1 12) ≤ 2147483647) ∧ ((0 ≤ (24 + (v8.1 12)) ∧ (24 + (v8.1 12)) < (v8.2 4).1) ∧ ((-2147483648 ≤ (v8.1 12) + 1 ∧ (v8.1 12) + 1 ≤ 2147483647) ∧ Post none [(ab_pf (ab_pa (ab_pa v8 4 (0 + (v8.1 12)) r4) 4 (24 + (v8.1 12)) r7) 12 ((v8.1 12) + 1))])))))) ∧ (¬ (v8.1 23) ≤ 0 → Post none [v8]))))))))) ∧ ((w0.1 12) = 24 → (∃ Q9 : Option ab_V → List ab_Ob → Prop, ab_Ct d 0 0 mX9_begins [ab_O 0, ab_I 1] [w0] Q9 ∧ (∀ v10 : ab_Ob, Q9 none [v10] → (∃ Q11 : Option ab_V → List ab_Ob → Prop, ab_Ct d 0 0 mX9_readWhole [ab_O 0, ab_I 0, ab_I 99] [v10] Q11 ∧ (∀ r12 : Int, ∀ v13 : ab_Ob, Q11 (some (ab_I r12)) [v13] → (∃ Q14 : Option ab_V → List ab_Ob → Prop, ab_Ct d 0 0 mX9_readPart [ab_O 0, ab_S 6, ab_I 1, ab_I 64] [v13] Q14 ∧ (∀ r15 : Int, ∀ v16 : ab_Ob, Q14 (some (ab_I r15)) [v16] → (((v16.1 23) ≤ 0 → ((-2147483648 ≤ 0 + (v16.1 12) ∧ 0 + (v16.1 12) ≤ 2147483647) ∧ ((0 ≤ (0 + (v16.1 12)) ∧ (0 + (v16.1 12)) < (v16.2 4).1) ∧ ((-2147483648 ≤ 24 + (v16.1 12) ∧ 24 + (v16.1 12) ≤ 2147483647) ∧ ((0 ≤ (24 + (v16.1 12)) ∧ (24 + (v16.1 12)) < (v16.2 4).1) ∧ ((-2147483648 ≤ (v16.1 12) + 1 ∧ (v16.1 12) + 1 ≤ 2147483647) ∧ Post none [(ab_pf (ab_pa (ab_pa v16 4 (0 + (v16.1 12)) r12) 4 (24 + (v16.1 12)) r15) 12 ((v16.1 12) + 1))])))))) ∧ (¬ (v16.1 23) ≤ 0 → Post none [v16]))))))))))) :
    ab_J x 0 [some (ab_O 0), none, none] [] [w0] kc ks := ab_go hx kX9_readNote.2 49 [] 0 h
def mX9_ruleHere : ab_M := ((yX9_ruleHere, cX9_ruleHere, 1, (some .int)), ([9], [(0, 0)], [false], false, false, 0), (false, 9, 0))
def rX9_ruleHere : List ab_R := [(0, .aload_n 0, 1, 0, 0, 0, [], none),
  (1, .ldc 213, 2, 0, 7, 1, [], none),
  (3, .invokevirtual 159, 3, 0, 0, 0, [], some mX9_isWord),
  (6, .ifCond .eq 7, 3, 0, 0, 0, [13], none),
  (9, .iconst 0, 1, 0, 0, 0, [], none),
  (10, .goto 69, 3, 0, 0, 0, [79], none),
  (13, .aload_n 0, 1, 0, 0, 0, [], none),
  (14, .ldc 211, 2, 0, 6, 1, [], none),
  (16, .invokevirtual 159, 3, 0, 0, 0, [], some mX9_isWord),
  (19, .ifCond .eq 7, 3, 0, 0, 0, [26], none),
  (22, .iconst 1, 1, 0, 0, 0, [], none),
  (23, .goto 56, 3, 0, 0, 0, [79], none),
  (26, .aload_n 0, 1, 0, 0, 0, [], none),
  (27, .ldc 215, 2, 0, 8, 1, [], none),
  (29, .invokevirtual 159, 3, 0, 0, 0, [], some mX9_isWord),
  (32, .ifCond .eq 7, 3, 0, 0, 0, [39], none),
  (35, .iconst 2, 1, 0, 0, 0, [], none),
  (36, .goto 43, 3, 0, 0, 0, [79], none),
  (39, .aload_n 0, 1, 0, 0, 0, [], none),
  (40, .ldc 217, 2, 0, 9, 1, [], none),
  (42, .invokevirtual 159, 3, 0, 0, 0, [], some mX9_isWord),
  (45, .ifCond .eq 7, 3, 0, 0, 0, [52], none),
  (48, .iconst 3, 1, 0, 0, 0, [], none),
  (49, .goto 30, 3, 0, 0, 0, [79], none),
  (52, .aload_n 0, 1, 0, 0, 0, [], none),
  (53, .ldc 219, 2, 0, 10, 1, [], none),
  (55, .invokevirtual 159, 3, 0, 0, 0, [], some mX9_isWord),
  (58, .ifCond .eq 7, 3, 0, 0, 0, [65], none),
  (61, .iconst 4, 1, 0, 0, 0, [], none),
  (62, .goto 17, 3, 0, 0, 0, [79], none),
  (65, .aload_n 0, 1, 0, 0, 0, [], none),
  (66, .ldc 221, 2, 0, 11, 1, [], none),
  (68, .invokevirtual 159, 3, 0, 0, 0, [], some mX9_isWord),
  (71, .ifCond .eq 7, 3, 0, 0, 0, [78], none),
  (74, .iconst 5, 1, 0, 0, 0, [], none),
  (75, .goto 4, 3, 0, 0, 0, [79], none),
  (78, .iconst (-1), 1, 0, 0, 0, [], none),
  (79, .ireturn, 1, 0, 0, 0, [], none)]
set_option maxRecDepth 100000 in
theorem kX9_ruleHere : ab_def_ok mX9_ruleHere rX9_ruleHere := ⟨ab_mok_of 1436 108 1435 59 (by decide +kernel), [0, 0, 1393, 0, 0, 0, 0, 0, 1393, 0, 0, 0, 0, 0, 1393, 0, 0, 0, 0, 0, 1393, 0, 0, 0, 0, 0, 1393, 0, 0, 0, 0, 0, 1393, 0, 0, 0, 0, 0], by decide +kernel⟩
set_option maxRecDepth 100000 in
theorem vX9_ruleHere_0 {x : ab_Cx} {d mc ms : Nat} {Post : Option ab_V → List ab_Ob → Prop} (hx : ab_At x mX9_ruleHere d mc ms Post) (w0 : ab_Ob) (kc ks : Nat)
    (h : (∃ Q1 : Option ab_V → List ab_Ob → Prop, ab_Ct d 0 0 mX9_isWord [ab_O 0, ab_S 7] [w0] Q1 ∧ (∀ r2 : Int, Q1 (some (ab_I r2)) [w0] → ((r2 = 0 → (∃ Q3 : Option ab_V → List ab_Ob → Prop, ab_Ct d 0 0 mX9_isWord [ab_O 0, ab_S 6] [w0] Q3 ∧ (∀ r4 : Int, Q3 (some (ab_I r4)) [w0] → ((r4 = 0 → (∃ Q5 : Option ab_V → List ab_Ob → Prop, ab_Ct d 0 0 mX9_isWord [ab_O 0, ab_S 8] [w0] Q5 ∧ (∀ r6 : Int, Q5 (some (ab_I r6)) [w0] → ((r6 = 0 → (∃ Q7 : Option ab_V → List ab_Ob → Prop, ab_Ct d 0 0 mX9_isWord [ab_O 0, ab_S 9] [w0] Q7 ∧ (∀ r8 : Int, Q7 (some (ab_I r8)) [w0] → ((r8 = 0 → (∃ Q9 : Option ab_V → List ab_Ob → Prop, ab_Ct d 0 0 mX9_isWord [ab_O 0, ab_S 10] [w0] Q9 ∧ (∀ r10 : Int, Q9 (some (ab_I r10)) [w0] → ((r10 = 0 → (∃ Q11 : Option ab_V → List ab_Ob → Prop, ab_Ct d 0 0 mX9_isWord [ab_O 0, ab_S 11] [w0] Q11 ∧ (∀ r12 : Int, Q11 (some (ab_I r12)) [w0] → ((r12 = 0 → Post (some (ab_I (-1))) [w0]) ∧ (¬ r12 = 0 → Post (some (ab_I 5)) [w0]))))) ∧ (¬ r10 = 0 → Post (some (ab_I 4)) [w0]))))) ∧ (¬ r8 = 0 → Post (some (ab_I 3)) [w0]))))) ∧ (¬ r6 = 0 → Post (some (ab_I 2)) [w0]))))) ∧ (¬ r4 = 0 → Post (some (ab_I 1)) [w0]))))) ∧ (¬ r2 = 0 → Post (some (ab_I 0)) [w0]))))) :
    ab_J x 0 [some (ab_O 0)] [] [w0] kc ks := ab_go hx kX9_ruleHere.2 31 [] 0 h
def mX9_readRule : ab_M := ((yX9_readRule, cX9_readRule, 3, none), ([9], [(0, 0)], [true], false, false, 0), (false, 9, 0))
def rX9_readRule : List ab_R := [(0, .aload_n 0, 1, 0, 0, 0, [], none),
  (1, .iconst 0, 1, 0, 0, 0, [], none),
  (2, .invokevirtual 207, 3, 0, 0, 0, [], some mX9_begins),
  (5, .aload_n 0, 1, 0, 0, 0, [], none),
  (6, .invokevirtual 223, 3, 0, 0, 0, [], some mX9_ruleHere),
  (9, .istore_n 1, 1, 0, 0, 0, [], none),
  (10, .iload_n 1, 1, 0, 0, 0, [], none),
  (11, .iconst (-1), 1, 0, 0, 0, [], none),
  (12, .if_icmp .ne 11, 3, 0, 0, 0, [23], none),
  (15, .aload_n 0, 1, 0, 0, 0, [], none),
  (16, .iconst 1, 1, 0, 0, 0, [], none),
  (17, .invokevirtual 152, 3, 0, 0, 0, [], some mX9_flaw),
  (20, .goto 20, 3, 0, 0, 0, [40], none),
  (23, .aload_n 0, 1, 0, 0, 0, [], none),
  (24, .getfield 173, 3, 9, 13, 0, [], none),
  (27, .iload_n 1, 1, 0, 0, 0, [], none),
  (28, .ishr, 1, 0, 0, 0, [], none),
  (29, .iconst 1, 1, 0, 0, 0, [], none),
  (30, .iand, 1, 0, 0, 0, [], none),
  (31, .iconst 1, 1, 0, 0, 0, [], none),
  (32, .if_icmp .ne 8, 3, 0, 0, 0, [40], none),
  (35, .aload_n 0, 1, 0, 0, 0, [], none),
  (36, .iconst 3, 1, 0, 0, 0, [], none),
  (37, .invokevirtual 152, 3, 0, 0, 0, [], some mX9_flaw),
  (40, .aload_n 0, 1, 0, 0, 0, [], none),
  (41, .invokevirtual 156, 3, 0, 0, 0, [], some mX9_next),
  (44, .aload_n 0, 1, 0, 0, 0, [], none),
  (45, .iconst 0, 1, 0, 0, 0, [], none),
  (46, .bipush 99, 2, 0, 0, 0, [], none),
  (48, .invokevirtual 163, 3, 0, 0, 0, [], some mX9_readWhole),
  (51, .istore_n 2, 1, 0, 0, 0, [], none),
  (52, .aload_n 0, 1, 0, 0, 0, [], none),
  (53, .getfield 109, 3, 9, 23, 0, [], none),
  (56, .ifCond .le 4, 3, 0, 0, 0, [60], none),
  (59, .return_, 1, 0, 0, 0, [], none),
  (60, .aload_n 0, 1, 0, 0, 0, [], none),
  (61, .dup, 1, 0, 0, 0, [], none),
  (62, .getfield 173, 3, 9, 13, 0, [], none),
  (65, .iconst 1, 1, 0, 0, 0, [], none),
  (66, .iload_n 1, 1, 0, 0, 0, [], none),
  (67, .ishl, 1, 0, 0, 0, [], none),
  (68, .ior, 1, 0, 0, 0, [], none),
  (69, .putfield 173, 3, 9, 13, 0, [], none),
  (72, .aload_n 0, 1, 0, 0, 0, [], none),
  (73, .getfield 17, 3, 9, 4, 0, [], none),
  (76, .bipush 48, 2, 0, 0, 0, [], none),
  (78, .iload_n 1, 1, 0, 0, 0, [], none),
  (79, .iadd, 1, 0, 0, 0, [], none),
  (80, .iload_n 2, 1, 0, 0, 0, [], none),
  (81, .iastore, 1, 0, 0, 0, [], none),
  (82, .return_, 1, 0, 0, 0, [], none)]
set_option maxRecDepth 100000 in
theorem kX9_readRule : ab_def_ok mX9_readRule rX9_readRule := ⟨ab_mok_of 1432 108 1431 58 (by decide +kernel), [0, 0, 1423, 0, 1433, 0, 0, 0, 0, 0, 0, 1403, 0, 0, 1205, 0, 0, 0, 0, 0, 0, 0, 0, 1403, 0, 1369, 0, 0, 0, 1412, 0, 0, 1215, 0, 0, 0, 0, 1205, 0, 0, 0, 0, 1205, 0, 1196, 0, 0, 0, 0, 0, 0], by decide +kernel⟩
set_option maxRecDepth 100000 in
theorem vX9_readRule_0 {x : ab_Cx} {d mc ms : Nat} {Post : Option ab_V → List ab_Ob → Prop} (hx : ab_At x mX9_readRule d mc ms Post) (w0 : ab_Ob) (kc ks : Nat)
    (h : (∃ Q1 : Option ab_V → List ab_Ob → Prop, ab_Ct d 0 0 mX9_begins [ab_O 0, ab_I 0] [w0] Q1 ∧ (∀ v2 : ab_Ob, Q1 none [v2] → (∃ Q3 : Option ab_V → List ab_Ob → Prop, ab_Ct d 0 0 mX9_ruleHere [ab_O 0] [v2] Q3 ∧ (∀ r4 : Int, Q3 (some (ab_I r4)) [v2] → ((¬ r4 = (-1) → ((¬ ((Int32.ofInt ((Int32.ofInt (v2.1 13) >>> (Int32.ofInt r4 &&& 31)).toInt) &&& Int32.ofInt 1).toInt) = 1 → (∃ Q5 : Option ab_V → List ab_Ob → Prop, ab_Ct d 0 0 mX9_next [ab_O 0] [v2] Q5 ∧ (∀ v6 : ab_Ob, Q5 none [v6] → (∃ Q7 : Option ab_V → List ab_Ob → Prop, ab_Ct d 0 0 mX9_readWhole [ab_O 0, ab_I 0, ab_I 99] [v6] Q7 ∧ (∀ r8 : Int, ∀ v9 : ab_Ob, Q7 (some (ab_I r8)) [v9] → (((v9.1 23) ≤ 0 → ((-2147483648 ≤ 48 + r4 ∧ 48 + r4 ≤ 2147483647) ∧ ((0 ≤ (48 + r4) ∧ (48 + r4) < (v9.2 4).1) ∧ Post none [(ab_pa (ab_pf v9 13 ((Int32.ofInt (v9.1 13) ||| Int32.ofInt ((Int32.ofInt 1 <<< (Int32.ofInt r4 &&& 31)).toInt)).toInt)) 4 (48 + r4) r8)]))) ∧ (¬ (v9.1 23) ≤ 0 → Post none [v9]))))))) ∧ (((Int32.ofInt ((Int32.ofInt (v2.1 13) >>> (Int32.ofInt r4 &&& 31)).toInt) &&& Int32.ofInt 1).toInt) = 1 → (∃ Q10 : Option ab_V → List ab_Ob → Prop, ab_Ct d 0 0 mX9_flaw [ab_O 0, ab_I 3] [v2] Q10 ∧ (∀ v11 : ab_Ob, Q10 none [v11] → (∃ Q12 : Option ab_V → List ab_Ob → Prop, ab_Ct d 0 0 mX9_next [ab_O 0] [v11] Q12 ∧ (∀ v13 : ab_Ob, Q12 none [v13] → (∃ Q14 : Option ab_V → List ab_Ob → Prop, ab_Ct d 0 0 mX9_readWhole [ab_O 0, ab_I 0, ab_I 99] [v13] Q14 ∧ (∀ r15 : Int, ∀ v16 : ab_Ob, Q14 (some (ab_I r15)) [v16] → (((v16.1 23) ≤ 0 → ((-2147483648 ≤ 48 + r4 ∧ 48 + r4 ≤ 2147483647) ∧ ((0 ≤ (48 + r4) ∧ (48 + r4) < (v16.2 4).1) ∧ Post none [(ab_pa (ab_pf v16 13 ((Int32.ofInt (v16.1 13) ||| Int32.ofInt ((Int32.ofInt 1 <<< (Int32.ofInt r4 &&& 31)).toInt)).toInt)) 4 (48 + r4) r15)]))) ∧ (¬ (v16.1 23) ≤ 0 → Post none [v16]))))))))))) ∧ (r4 = (-1) → (∃ Q17 : Option ab_V → List ab_Ob → Prop, ab_Ct d 0 0 mX9_flaw [ab_O 0, ab_I 1] [v2] Q17 ∧ (∀ v18 : ab_Ob, Q17 none [v18] → (∃ Q19 : Option ab_V → List ab_Ob → Prop, ab_Ct d 0 0 mX9_next [ab_O 0] [v18] Q19 ∧ (∀ v20 : ab_Ob, Q19 none [v20] → (∃ Q21 : Option ab_V → List ab_Ob → Prop, ab_Ct d 0 0 mX9_readWhole [ab_O 0, ab_I 0, ab_I 99] [v20] Q21 ∧ (∀ r22 : Int, ∀ v23 : ab_Ob, Q21 (some (ab_I r22)) [v23] → (((v23.1 23) ≤ 0 → ((-2147483648 ≤ 48 + r4 ∧ 48 + r4 ≤ 2147483647) ∧ ((0 ≤ (48 + r4) ∧ (48 + r4) < (v23.2 4).1) ∧ Post none [(ab_pa (ab_pf v23 13 ((Int32.ofInt (v23.1 13) ||| Int32.ofInt ((Int32.ofInt 1 <<< (Int32.ofInt r4 &&& 31)).toInt)).toInt)) 4 (48 + r4) r22)]))) ∧ (¬ (v23.1 23) ≤ 0 → Post none [v23]))))))))))))))) :
    ab_J x 0 [some (ab_O 0), none, none] [] [w0] kc ks := ab_go hx kX9_readRule.2 50 [] 0 h
def mX9_readLine : ab_M := ((yX9_readLine, cX9_readLine, 1, none), ([9], [(0, 0)], [true], false, false, 0), (false, 9, 0))
def rX9_readLine : List ab_R := [(0, .aload_n 0, 1, 0, 0, 0, [], none),
  (1, .ldc 179, 2, 0, 0, 1, [], none),
  (3, .invokevirtual 159, 3, 0, 0, 0, [], some mX9_isWord),
  (6, .ifCond .eq 10, 3, 0, 0, 0, [16], none),
  (9, .aload_n 0, 1, 0, 0, 0, [], none),
  (10, .invokevirtual 181, 3, 0, 0, 0, [], some mX9_readPiece),
  (13, .goto 40, 3, 0, 0, 0, [53], none),
  (16, .aload_n 0, 1, 0, 0, 0, [], none),
  (17, .ldc 184, 2, 0, 1, 1, [], none),
  (19, .invokevirtual 159, 3, 0, 0, 0, [], some mX9_isWord),
  (22, .ifCond .eq 10, 3, 0, 0, 0, [32], none),
  (25, .aload_n 0, 1, 0, 0, 0, [], none),
  (26, .invokevirtual 186, 3, 0, 0, 0, [], some mX9_readNote),
  (29, .goto 24, 3, 0, 0, 0, [53], none),
  (32, .aload_n 0, 1, 0, 0, 0, [], none),
  (33, .ldc 189, 2, 0, 2, 1, [], none),
  (35, .invokevirtual 159, 3, 0, 0, 0, [], some mX9_isWord),
  (38, .ifCond .eq 10, 3, 0, 0, 0, [48], none),
  (41, .aload_n 0, 1, 0, 0, 0, [], none),
  (42, .invokevirtual 191, 3, 0, 0, 0, [], some mX9_readRule),
  (45, .goto 8, 3, 0, 0, 0, [53], none),
  (48, .aload_n 0, 1, 0, 0, 0, [], none),
  (49, .iconst 1, 1, 0, 0, 0, [], none),
  (50, .invokevirtual 152, 3, 0, 0, 0, [], some mX9_flaw),
  (53, .return_, 1, 0, 0, 0, [], none)]
set_option maxRecDepth 100000 in
theorem kX9_readLine : ab_def_ok mX9_readLine rX9_readLine := ⟨ab_mok_of 1391 108 1390 50 (by decide +kernel), [0, 0, 1393, 0, 0, 1399, 0, 0, 0, 1393, 0, 0, 1419, 0, 0, 0, 1393, 0, 0, 1429, 0, 0, 0, 1403, 0], by decide +kernel⟩
set_option maxRecDepth 100000 in
theorem vX9_readLine_0 {x : ab_Cx} {d mc ms : Nat} {Post : Option ab_V → List ab_Ob → Prop} (hx : ab_At x mX9_readLine d mc ms Post) (w0 : ab_Ob) (kc ks : Nat)
    (h : (∃ Q1 : Option ab_V → List ab_Ob → Prop, ab_Ct d 0 0 mX9_isWord [ab_O 0, ab_S 0] [w0] Q1 ∧ (∀ r2 : Int, Q1 (some (ab_I r2)) [w0] → ((r2 = 0 → (∃ Q3 : Option ab_V → List ab_Ob → Prop, ab_Ct d 0 0 mX9_isWord [ab_O 0, ab_S 1] [w0] Q3 ∧ (∀ r4 : Int, Q3 (some (ab_I r4)) [w0] → ((r4 = 0 → (∃ Q5 : Option ab_V → List ab_Ob → Prop, ab_Ct d 0 0 mX9_isWord [ab_O 0, ab_S 2] [w0] Q5 ∧ (∀ r6 : Int, Q5 (some (ab_I r6)) [w0] → ((r6 = 0 → (∃ Q7 : Option ab_V → List ab_Ob → Prop, ab_Ct d 0 0 mX9_flaw [ab_O 0, ab_I 1] [w0] Q7 ∧ (∀ v8 : ab_Ob, Q7 none [v8] → Post none [v8]))) ∧ (¬ r6 = 0 → (∃ Q9 : Option ab_V → List ab_Ob → Prop, ab_Ct d 0 0 mX9_readRule [ab_O 0] [w0] Q9 ∧ (∀ v10 : ab_Ob, Q9 none [v10] → Post none [v10]))))))) ∧ (¬ r4 = 0 → (∃ Q11 : Option ab_V → List ab_Ob → Prop, ab_Ct d 0 0 mX9_readNote [ab_O 0] [w0] Q11 ∧ (∀ v12 : ab_Ob, Q11 none [v12] → Post none [v12]))))))) ∧ (¬ r2 = 0 → (∃ Q13 : Option ab_V → List ab_Ob → Prop, ab_Ct d 0 0 mX9_readPiece [ab_O 0] [w0] Q13 ∧ (∀ v14 : ab_Ob, Q13 none [v14] → Post none [v14]))))))) :
    ab_J x 0 [some (ab_O 0)] [] [w0] kc ks := ab_go hx kX9_readLine.2 20 [] 0 h
def mX9_readAll : ab_M := ((yX9_readAll, cX9_readAll, 2, none), ([9], [(0, 0)], [true], false, false, 0), (false, 9, 0))
def rX9_readAll : List ab_R := [(0, .iconst 0, 1, 0, 0, 0, [], none),
  (1, .istore_n 1, 1, 0, 0, 0, [], none),
  (2, .iload_n 1, 1, 0, 0, 0, [], none),
  (3, .bipush 55, 2, 0, 0, 0, [], none),
  (5, .if_icmp .ge 16, 3, 0, 0, 0, [21], none),
  (8, .aload_n 0, 1, 0, 0, 0, [], none),
  (9, .getfield 17, 3, 9, 4, 0, [], none),
  (12, .iload_n 1, 1, 0, 0, 0, [], none),
  (13, .iconst 0, 1, 0, 0, 0, [], none),
  (14, .iastore, 1, 0, 0, 0, [], none),
  (15, .iinc 1 1, 3, 0, 0, 0, [], none),
  (18, .goto (-16), 3, 0, 0, 0, [2], none),
  (21, .aload_n 0, 1, 0, 0, 0, [], none),
  (22, .iconst 0, 1, 0, 0, 0, [], none),
  (23, .putfield 167, 3, 9, 10, 0, [], none),
  (26, .aload_n 0, 1, 0, 0, 0, [], none),
  (27, .iconst 0, 1, 0, 0, 0, [], none),
  (28, .putfield 170, 3, 9, 12, 0, [], none),
  (31, .aload_n 0, 1, 0, 0, 0, [], none),
  (32, .iconst 0, 1, 0, 0, 0, [], none),
  (33, .putfield 173, 3, 9, 13, 0, [], none),
  (36, .aload_n 0, 1, 0, 0, 0, [], none),
  (37, .invokevirtual 156, 3, 0, 0, 0, [], some mX9_next),
  (40, .aload_n 0, 1, 0, 0, 0, [], none),
  (41, .invokevirtual 176, 3, 0, 0, 0, [], some mX9_readLine),
  (44, .aload_n 0, 1, 0, 0, 0, [], none),
  (45, .getfield 122, 3, 9, 20, 0, [], none),
  (48, .iconst 4, 1, 0, 0, 0, [], none),
  (49, .if_icmp .ne 14, 3, 0, 0, 0, [63], none),
  (52, .aload_n 0, 1, 0, 0, 0, [], none),
  (53, .invokevirtual 156, 3, 0, 0, 0, [], some mX9_next),
  (56, .aload_n 0, 1, 0, 0, 0, [], none),
  (57, .invokevirtual 176, 3, 0, 0, 0, [], some mX9_readLine),
  (60, .goto (-16), 3, 0, 0, 0, [44], none),
  (63, .aload_n 0, 1, 0, 0, 0, [], none),
  (64, .getfield 122, 3, 9, 20, 0, [], none),
  (67, .iconst 1, 1, 0, 0, 0, [], none),
  (68, .if_icmp .eq 8, 3, 0, 0, 0, [76], none),
  (71, .aload_n 0, 1, 0, 0, 0, [], none),
  (72, .iconst 1, 1, 0, 0, 0, [], none),
  (73, .invokevirtual 152, 3, 0, 0, 0, [], some mX9_flaw),
  (76, .aload_n 0, 1, 0, 0, 0, [], none),
  (77, .getfield 109, 3, 9, 23, 0, [], none),
  (80, .ifCond .ne 15, 3, 0, 0, 0, [95], none),
  (83, .aload_n 0, 1, 0, 0, 0, [], none),
  (84, .getfield 170, 3, 9, 12, 0, [], none),
  (87, .ifCond .ne 8, 3, 0, 0, 0, [95], none),
  (90, .aload_n 0, 1, 0, 0, 0, [], none),
  (91, .iconst 5, 1, 0, 0, 0, [], none),
  (92, .invokevirtual 152, 3, 0, 0, 0, [], some mX9_flaw),
  (95, .return_, 1, 0, 0, 0, [], none)]
set_option maxRecDepth 100000 in
theorem kX9_readAll : ab_def_ok mX9_readAll rX9_readAll := ⟨ab_mok_of 1368 108 1367 45 (by decide +kernel), [0, 0, 0, 0, 0, 0, 1196, 0, 0, 0, 0, 0, 0, 0, 1202, 0, 0, 1204, 0, 0, 1205, 0, 1369, 0, 1388, 0, 1212, 0, 0, 0, 1369, 0, 1388, 0, 0, 1212, 0, 0, 0, 0, 1403, 0, 1215, 0, 0, 1204, 0, 0, 0, 1403, 0], by decide +kernel⟩
set_option maxRecDepth 100000 in
theorem vX9_readAll_0 {x : ab_Cx} {d mc ms : Nat} {Post : Option ab_V → List ab_Ob → Prop} (hx : ab_At x mX9_readAll d mc ms Post) (w0 : ab_Ob) (kc ks : Nat)
    (h : ab_J x 2 [some (ab_O 0), some (ab_I 0)] [] [w0] kc ks) :
    ab_J x 0 [some (ab_O 0), none] [] [w0] kc ks := ab_go hx kX9_readAll.2 7 [(2, [true, true]), (44, [true, false])] 0 h
set_option maxRecDepth 100000 in
theorem vX9_readAll_2 {x : ab_Cx} {d mc ms : Nat} {Post : Option ab_V → List ab_Ob → Prop} (hx : ab_At x mX9_readAll d mc ms Post) (l1 : Int) (w0 : ab_Ob) (kc ks : Nat)
    (h : ((55 ≤ l1 → (∃ Q1 : Option ab_V → List ab_Ob → Prop, ab_Ct d 0 0 mX9_next [ab_O 0] [(ab_pf (ab_pf (ab_pf w0 10 0) 12 0) 13 0)] Q1 ∧ (∀ v2 : ab_Ob, Q1 none [v2] → (∃ Q3 : Option ab_V → List ab_Ob → Prop, ab_Ct d 0 0 mX9_readLine [ab_O 0] [v2] Q3 ∧ (∀ v4 : ab_Ob, Q3 none [v4] → ab_J x 44 [some (ab_O 0), none] [] [v4] kc ks))))) ∧ (¬ 55 ≤ l1 → ((0 ≤ l1 ∧ l1 < (w0.2 4).1) ∧ ((-2147483648 ≤ l1 + 1 ∧ l1 + 1 ≤ 2147483647) ∧ ab_J x 2 [some (ab_O 0), some (ab_I (l1 + 1))] [] [(ab_pa w0 4 l1 0)] kc ks))))) :
    ab_J x 2 [some (ab_O 0), some (ab_I l1)] [] [w0] kc ks := ab_go hx kX9_readAll.2 21 [(2, [true, true]), (44, [true, false])] 2 h
set_option maxRecDepth 100000 in
theorem vX9_readAll_44 {x : ab_Cx} {d mc ms : Nat} {Post : Option ab_V → List ab_Ob → Prop} (hx : ab_At x mX9_readAll d mc ms Post) (w0 : ab_Ob) (kc ks : Nat)
    (h : ((¬ (w0.1 20) = 4 → (((w0.1 20) = 1 → ((¬ (w0.1 23) = 0 → Post none [w0]) ∧ ((w0.1 23) = 0 → ((¬ (w0.1 12) = 0 → Post none [w0]) ∧ ((w0.1 12) = 0 → (∃ Q1 : Option ab_V → List ab_Ob → Prop, ab_Ct d 0 0 mX9_flaw [ab_O 0, ab_I 5] [w0] Q1 ∧ (∀ v2 : ab_Ob, Q1 none [v2] → Post none [v2]))))))) ∧ (¬ (w0.1 20) = 1 → (∃ Q3 : Option ab_V → List ab_Ob → Prop, ab_Ct d 0 0 mX9_flaw [ab_O 0, ab_I 1] [w0] Q3 ∧ (∀ v4 : ab_Ob, Q3 none [v4] → ((¬ (v4.1 23) = 0 → Post none [v4]) ∧ ((v4.1 23) = 0 → ((¬ (v4.1 12) = 0 → Post none [v4]) ∧ ((v4.1 12) = 0 → (∃ Q5 : Option ab_V → List ab_Ob → Prop, ab_Ct d 0 0 mX9_flaw [ab_O 0, ab_I 5] [v4] Q5 ∧ (∀ v6 : ab_Ob, Q5 none [v6] → Post none [v6]))))))))))) ∧ ((w0.1 20) = 4 → (∃ Q7 : Option ab_V → List ab_Ob → Prop, ab_Ct d 0 0 mX9_next [ab_O 0] [w0] Q7 ∧ (∀ v8 : ab_Ob, Q7 none [v8] → (∃ Q9 : Option ab_V → List ab_Ob → Prop, ab_Ct d 0 0 mX9_readLine [ab_O 0] [v8] Q9 ∧ (∀ v10 : ab_Ob, Q9 none [v10] → ab_J x 44 [some (ab_O 0), none] [] [v10] kc ks))))))) :
    ab_J x 44 [some (ab_O 0), none] [] [w0] kc ks := ab_go hx kX9_readAll.2 25 [(2, [true, true]), (44, [true, false])] 44 h
def mX9_feed : ab_M := ((yX9_feed, cX9_feed, 8, (some .int)), ([9], [(0, 0)], [true], false, false, 0), (false, 9, 5))
def rX9_feed : List ab_R := [(0, .aload_n 0, 1, 0, 0, 0, [], none),
  (1, .iconst 0, 1, 0, 0, 0, [], none),
  (2, .putfield 100, 3, 9, 0, 0, [], none),
  (5, .aload_n 0, 1, 0, 0, 0, [], none),
  (6, .getfield 226, 3, 9, 17, 0, [], none),
  (9, .bipush 20, 2, 0, 0, 0, [], none),
  (11, .iadd, 1, 0, 0, 0, [], none),
  (12, .sipush 700, 3, 0, 0, 0, [], none),
  (15, .if_icmp .le 5, 3, 0, 0, 0, [20], none),
  (18, .iconst (-1), 1, 0, 0, 0, [], none),
  (19, .ireturn, 1, 0, 0, 0, [], none),
  (20, .iconst 0, 1, 0, 0, 0, [], none),
  (21, .istore 6, 2, 0, 0, 0, [], none),
  (23, .iload 6, 2, 0, 0, 0, [], none),
  (25, .bipush 20, 2, 0, 0, 0, [], none),
  (27, .if_icmp .ge 90, 3, 0, 0, 0, [117], none),
  (30, .iload 6, 2, 0, 0, 0, [], none),
  (32, .iconst 4, 1, 0, 0, 0, [], none),
  (33, .if_icmp .ge 7, 3, 0, 0, 0, [40], none),
  (36, .iload_n 1, 1, 0, 0, 0, [], none),
  (37, .goto 39, 3, 0, 0, 0, [76], none),
  (40, .iload 6, 2, 0, 0, 0, [], none),
  (42, .bipush 8, 2, 0, 0, 0, [], none),
  (44, .if_icmp .ge 7, 3, 0, 0, 0, [51], none),
  (47, .iload_n 2, 1, 0, 0, 0, [], none),
  (48, .goto 28, 3, 0, 0, 0, [76], none),
  (51, .iload 6, 2, 0, 0, 0, [], none),
  (53, .bipush 12, 2, 0, 0, 0, [], none),
  (55, .if_icmp .ge 7, 3, 0, 0, 0, [62], none),
  (58, .iload_n 3, 1, 0, 0, 0, [], none),
  (59, .goto 17, 3, 0, 0, 0, [76], none),
  (62, .iload 6, 2, 0, 0, 0, [], none),
  (64, .bipush 16, 2, 0, 0, 0, [], none),
  (66, .if_icmp .ge 8, 3, 0, 0, 0, [74], none),
  (69, .iload 4, 2, 0, 0, 0, [], none),
  (71, .goto 5, 3, 0, 0, 0, [76], none),
  (74, .iload 5, 2, 0, 0, 0, [], none),
  (76, .istore 7, 2, 0, 0, 0, [], none),
  (78, .aload_n 0, 1, 0, 0, 0, [], none),
  (79, .getfield 23, 3, 9, 16, 0, [], none),
  (82, .aload_n 0, 1, 0, 0, 0, [], none),
  (83, .getfield 226, 3, 9, 17, 0, [], none),
  (86, .iload 7, 2, 0, 0, 0, [], none),
  (88, .bipush 24, 2, 0, 0, 0, [], none),
  (90, .bipush 8, 2, 0, 0, 0, [], none),
  (92, .iload 6, 2, 0, 0, 0, [], none),
  (94, .iconst 4, 1, 0, 0, 0, [], none),
  (95, .irem, 1, 0, 0, 0, [], none),
  (96, .imul, 1, 0, 0, 0, [], none),
  (97, .isub, 1, 0, 0, 0, [], none),
  (98, .ishr, 1, 0, 0, 0, [], none),
  (99, .i2b, 1, 0, 0, 0, [], none),
  (100, .bastore, 1, 0, 0, 0, [], none),
  (101, .aload_n 0, 1, 0, 0, 0, [], none),
  (102, .dup, 1, 0, 0, 0, [], none),
  (103, .getfield 226, 3, 9, 17, 0, [], none),
  (106, .iconst 1, 1, 0, 0, 0, [], none),
  (107, .iadd, 1, 0, 0, 0, [], none),
  (108, .putfield 226, 3, 9, 17, 0, [], none),
  (111, .iinc 6 1, 3, 0, 0, 0, [], none),
  (114, .goto (-91), 3, 0, 0, 0, [23], none),
  (117, .aload_n 0, 1, 0, 0, 0, [], none),
  (118, .getfield 226, 3, 9, 17, 0, [], none),
  (121, .ireturn, 1, 0, 0, 0, [], none)]
set_option maxRecDepth 100000 in
theorem kX9_feed : ab_def_ok mX9_feed rX9_feed := ⟨ab_mok_of 1356 108 1354 1355 (by decide +kernel), [0, 0, 1192, 0, 1209, 0, 0, 0, 0, 0, 0, 0, 0, 0, 0, 0, 0, 0, 0, 0, 0, 0, 0, 0, 0, 0, 0, 0, 0, 0, 0, 0, 0, 0, 0, 0, 0, 0, 0, 1208, 0, 1209, 0, 0, 0, 0, 0, 0, 0, 0, 0, 0, 0, 0, 0, 1209, 0, 0, 1209, 0, 0, 0, 1209, 0], by decide +kernel⟩
set_option maxRecDepth 100000 in
theorem vX9_feed_0 {x : ab_Cx} {d mc ms : Nat} {Post : Option ab_V → List ab_Ob → Prop} (hx : ab_At x mX9_feed d mc ms Post) (a1 a2 a3 a4 a5 : Int) (w0 : ab_Ob) (kc ks : Nat)
    (h : ((-2147483648 ≤ (w0.1 17) + 20 ∧ (w0.1 17) + 20 ≤ 2147483647) ∧ ((((w0.1 17) + 20) ≤ 700 → ab_J x 23 [some (ab_O 0), some (ab_I a1), some (ab_I a2), some (ab_I a3), some (ab_I a4), some (ab_I a5), some (ab_I 0), none] [] [(ab_pf w0 0 0)] kc ks) ∧ (¬ ((w0.1 17) + 20) ≤ 700 → Post (some (ab_I (-1))) [(ab_pf w0 0 0)])))) :
    ab_J x 0 [some (ab_O 0), some (ab_I a1), some (ab_I a2), some (ab_I a3), some (ab_I a4), some (ab_I a5), none, none] [] [w0] kc ks := ab_go hx kX9_feed.2 16 [(23, [true, true, true, true, true, true, true, false]), (76, [true, true, true, true, true, true, true, false])] 0 h
set_option maxRecDepth 100000 in
theorem vX9_feed_23 {x : ab_Cx} {d mc ms : Nat} {Post : Option ab_V → List ab_Ob → Prop} (hx : ab_At x mX9_feed d mc ms Post) (l1 l2 l3 l4 l5 l6 : Int) (w0 : ab_Ob) (kc ks : Nat)
    (h : ((20 ≤ l6 → Post (some (ab_I (w0.1 17))) [w0]) ∧ (¬ 20 ≤ l6 → ((4 ≤ l6 → ((8 ≤ l6 → ((12 ≤ l6 → ((16 ≤ l6 → ab_J x 76 [some (ab_O 0), some (ab_I l1), some (ab_I l2), some (ab_I l3), some (ab_I l4), some (ab_I l5), some (ab_I l6), none] [ab_I l5] [w0] kc ks) ∧ (¬ 16 ≤ l6 → ab_J x 76 [some (ab_O 0), some (ab_I l1), some (ab_I l2), some (ab_I l3), some (ab_I l4), some (ab_I l5), some (ab_I l6), none] [ab_I l4] [w0] kc ks))) ∧ (¬ 12 ≤ l6 → ab_J x 76 [some (ab_O 0), some (ab_I l1), some (ab_I l2), some (ab_I l3), some (ab_I l4), some (ab_I l5), some (ab_I l6), none] [ab_I l3] [w0] kc ks))) ∧ (¬ 8 ≤ l6 → ab_J x 76 [some (ab_O 0), some (ab_I l1), some (ab_I l2), some (ab_I l3), some (ab_I l4), some (ab_I l5), some (ab_I l6), none] [ab_I l2] [w0] kc ks))) ∧ (¬ 4 ≤ l6 → ab_J x 76 [some (ab_O 0), some (ab_I l1), some (ab_I l2), some (ab_I l3), some (ab_I l4), some (ab_I l5), some (ab_I l6), none] [ab_I l1] [w0] kc ks))))) :
    ab_J x 23 [some (ab_O 0), some (ab_I l1), some (ab_I l2), some (ab_I l3), some (ab_I l4), some (ab_I l5), some (ab_I l6), none] [] [w0] kc ks := ab_go hx kX9_feed.2 22 [(23, [true, true, true, true, true, true, true, false]), (76, [true, true, true, true, true, true, true, false])] 23 h
set_option maxRecDepth 100000 in
theorem vX9_feed_76 {x : ab_Cx} {d mc ms : Nat} {Post : Option ab_V → List ab_Ob → Prop} (hx : ab_At x mX9_feed d mc ms Post) (l1 l2 l3 l4 l5 l6 t0 : Int) (w0 : ab_Ob) (kc ks : Nat)
    (h : ((¬ (4 : Int) = 0) ∧ ((-2147483648 ≤ (Int.tmod l6 4) ∧ (Int.tmod l6 4) ≤ 2147483647) ∧ ((-2147483648 ≤ 8 * (Int.tmod l6 4) ∧ 8 * (Int.tmod l6 4) ≤ 2147483647) ∧ ((-2147483648 ≤ 24 - (8 * (Int.tmod l6 4)) ∧ 24 - (8 * (Int.tmod l6 4)) ≤ 2147483647) ∧ ((0 ≤ (w0.1 17) ∧ (w0.1 17) < (w0.2 16).1) ∧ ((-2147483648 ≤ (w0.1 17) + 1 ∧ (w0.1 17) + 1 ≤ 2147483647) ∧ ((-2147483648 ≤ l6 + 1 ∧ l6 + 1 ≤ 2147483647) ∧ ab_J x 23 [some (ab_O 0), some (ab_I l1), some (ab_I l2), some (ab_I l3), some (ab_I l4), some (ab_I l5), some (ab_I (l6 + 1)), none] [] [(ab_pf (ab_pa w0 16 (w0.1 17) (ab_i8 (ab_i8 ((Int32.ofInt t0 >>> (Int32.ofInt (24 - (8 * (Int.tmod l6 4))) &&& 31)).toInt)))) 17 ((w0.1 17) + 1))] kc ks)))))))) :
    ab_J x 76 [some (ab_O 0), some (ab_I l1), some (ab_I l2), some (ab_I l3), some (ab_I l4), some (ab_I l5), some (ab_I l6), none] [ab_I t0] [w0] kc ks := ab_go hx kX9_feed.2 29 [(23, [true, true, true, true, true, true, true, false]), (76, [true, true, true, true, true, true, true, false])] 76 h
def mX9_lasts : ab_M := ((yX9_lasts, cX9_lasts, 2, (some .int)), ([9], [(0, 0)], [false], false, false, 0), (false, 9, 1))
def rX9_lasts : List ab_R := [(0, .aload_n 0, 1, 0, 0, 0, [], none),
  (1, .getfield 13, 3, 9, 3, 0, [], none),
  (4, .bipush 24, 2, 0, 0, 0, [], none),
  (6, .iload_n 1, 1, 0, 0, 0, [], none),
  (7, .iadd, 1, 0, 0, 0, [], none),
  (8, .iaload, 1, 0, 0, 0, [], none),
  (9, .ireturn, 1, 0, 0, 0, [], none)]
set_option maxRecDepth 100000 in
theorem kX9_lasts : ab_def_ok mX9_lasts rX9_lasts := ⟨ab_mok_of 1457 108 1456 63 (by decide +kernel), [0, 1195, 0, 0, 0, 0, 0], by decide +kernel⟩
set_option maxRecDepth 100000 in
theorem vX9_lasts_0 {x : ab_Cx} {d mc ms : Nat} {Post : Option ab_V → List ab_Ob → Prop} (hx : ab_At x mX9_lasts d mc ms Post) (a1 : Int) (w0 : ab_Ob) (kc ks : Nat)
    (h : ((-2147483648 ≤ 24 + a1 ∧ 24 + a1 ≤ 2147483647) ∧ ((0 ≤ (24 + a1) ∧ (24 + a1) < (w0.2 3).1) ∧ Post (some (ab_I ((w0.2 3).2 (24 + a1)))) [w0]))) :
    ab_J x 0 [some (ab_O 0), some (ab_I a1)] [] [w0] kc ks := ab_go hx kX9_lasts.2 11 [] 0 h
def mX9_beginOf : ab_M := ((yX9_beginOf, cX9_beginOf, 4, (some .int)), ([9], [(0, 0)], [false], false, false, 0), (false, 9, 1))
def rX9_beginOf : List ab_R := [(0, .iconst 0, 1, 0, 0, 0, [], none),
  (1, .istore_n 2, 1, 0, 0, 0, [], none),
  (2, .iconst 0, 1, 0, 0, 0, [], none),
  (3, .istore_n 3, 1, 0, 0, 0, [], none),
  (4, .iload_n 3, 1, 0, 0, 0, [], none),
  (5, .iload_n 1, 1, 0, 0, 0, [], none),
  (6, .if_icmp .ge 17, 3, 0, 0, 0, [23], none),
  (9, .iload_n 2, 1, 0, 0, 0, [], none),
  (10, .aload_n 0, 1, 0, 0, 0, [], none),
  (11, .iload_n 3, 1, 0, 0, 0, [], none),
  (12, .invokevirtual 258, 3, 0, 0, 0, [], some mX9_lasts),
  (15, .iadd, 1, 0, 0, 0, [], none),
  (16, .istore_n 2, 1, 0, 0, 0, [], none),
  (17, .iinc 3 1, 3, 0, 0, 0, [], none),
  (20, .goto (-16), 3, 0, 0, 0, [4], none),
  (23, .iload_n 2, 1, 0, 0, 0, [], none),
  (24, .ireturn, 1, 0, 0, 0, [], none)]
set_option maxRecDepth 100000 in
theorem kX9_beginOf : ab_def_ok mX9_beginOf rX9_beginOf := ⟨ab_mok_of 1453 108 1452 62 (by decide +kernel), [0, 0, 0, 0, 0, 0, 0, 0, 0, 0, 1454, 0, 0, 0, 0, 0, 0], by decide +kernel⟩
set_option maxRecDepth 100000 in
theorem vX9_beginOf_0 {x : ab_Cx} {d mc ms : Nat} {Post : Option ab_V → List ab_Ob → Prop} (hx : ab_At x mX9_beginOf d mc ms Post) (a1 : Int) (w0 : ab_Ob) (kc ks : Nat)
    (h : ab_J x 4 [some (ab_O 0), some (ab_I a1), some (ab_I 0), some (ab_I 0)] [] [w0] kc ks) :
    ab_J x 0 [some (ab_O 0), some (ab_I a1), none, none] [] [w0] kc ks := ab_go hx kX9_beginOf.2 9 [(4, [true, true, true, true])] 0 h
set_option maxRecDepth 100000 in
theorem vX9_beginOf_4 {x : ab_Cx} {d mc ms : Nat} {Post : Option ab_V → List ab_Ob → Prop} (hx : ab_At x mX9_beginOf d mc ms Post) (l1 l2 l3 : Int) (w0 : ab_Ob) (kc ks : Nat)
    (h : ((l1 ≤ l3 → Post (some (ab_I l2)) [w0]) ∧ (¬ l1 ≤ l3 → (∃ Q1 : Option ab_V → List ab_Ob → Prop, ab_Ct d 0 0 mX9_lasts [ab_O 0, ab_I l3] [w0] Q1 ∧ (∀ r2 : Int, Q1 (some (ab_I r2)) [w0] → ((-2147483648 ≤ l2 + r2 ∧ l2 + r2 ≤ 2147483647) ∧ ((-2147483648 ≤ l3 + 1 ∧ l3 + 1 ≤ 2147483647) ∧ ab_J x 4 [some (ab_O 0), some (ab_I l1), some (ab_I (l2 + r2)), some (ab_I (l3 + 1))] [] [w0] kc ks))))))) :
    ab_J x 4 [some (ab_O 0), some (ab_I l1), some (ab_I l2), some (ab_I l3)] [] [w0] kc ks := ab_go hx kX9_beginOf.2 16 [(4, [true, true, true, true])] 4 h
