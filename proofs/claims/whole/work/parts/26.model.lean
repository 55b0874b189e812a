def mX9_thrown : ab_M := ((yX9_thrown, cX9_thrown, 1, (some .int)), ([9], [(0, 0)], [false], false, false, 0), (false, 9, 0))
def rX9_thrown : List ab_R := [(0, .aload_n 0, 1, 0, 0, 0, [], none),
  (1, .getfield 100, 3, 9, 0, 0, [], none),
  (4, .ireturn, 1, 0, 0, 0, [], none)]
set_option maxRecDepth 100000 in
theorem kX9_thrown : ab_def_ok mX9_thrown rX9_thrown := ⟨ab_mok_of 1362 110 1360 1361 (by decide +kernel), [0, 1202, 0], by decide +kernel⟩
set_option maxRecDepth 100000 in
theorem vX9_thrown_0 {x : ab_Cx} {d mc ms : Nat} {Post : Option ab_V → List ab_Ob → Prop} (hx : ab_At x mX9_thrown d mc ms Post) (w0 : ab_Ob) (kc ks : Nat)
    (h : Post (some (ab_I (w0.1 0))) [w0]) :
    ab_J x 0 [some (ab_O 0)] [] [w0] kc ks := ab_go hx kX9_thrown.2 7 [] 0 h
def mX9_refused : ab_M := ((yX9_refused, cX9_refused, 2, (some .int)), ([9], [(0, 0)], [true], false, false, 0), (false, 9, 1))
def rX9_refused : List ab_R := [(0, .aload_n 0, 1, 0, 0, 0, [], none),
  (1, .iload_n 1, 1, 0, 0, 0, [], none),
  (2, .putfield 103, 3, 9, 1, 0, [], none),
  (5, .aload_n 0, 1, 0, 0, 0, [], none),
  (6, .iconst (-1), 1, 0, 0, 0, [], none),
  (7, .putfield 9, 3, 9, 2, 0, [], none),
  (10, .iconst (-1), 1, 0, 0, 0, [], none),
  (11, .ireturn, 1, 0, 0, 0, [], none)]
set_option maxRecDepth 100000 in
theorem kX9_refused : ab_def_ok mX9_refused rX9_refused := ⟨ab_mok_of 1374 110 1373 46 (by decide +kernel), [0, 0, 1203, 0, 0, 1204, 0, 0], by decide +kernel⟩
set_option maxRecDepth 100000 in
theorem vX9_refused_0 {x : ab_Cx} {d mc ms : Nat} {Post : Option ab_V → List ab_Ob → Prop} (hx : ab_At x mX9_refused d mc ms Post) (a1 : Int) (w0 : ab_Ob) (kc ks : Nat)
    (h : Post (some (ab_I (-1))) [(ab_pf (ab_pf w0 1 a1) 2 (-1))]) :
    ab_J x 0 [some (ab_O 0), some (ab_I a1)] [] [w0] kc ks := ab_go hx kX9_refused.2 12 [] 0 h
def mX9_good : ab_M := ((yX9_good, cX9_good, 2, (some .int)), ([9], [(0, 0)], [true], false, false, 0), (false, 9, 1))
def rX9_good : List ab_R := [(0, .aload_n 0, 1, 0, 0, 0, [], none),
  (1, .iconst 0, 1, 0, 0, 0, [], none),
  (2, .putfield 103, 3, 9, 1, 0, [], none),
  (5, .aload_n 0, 1, 0, 0, 0, [], none),
  (6, .iconst (-1), 1, 0, 0, 0, [], none),
  (7, .putfield 9, 3, 9, 2, 0, [], none),
  (10, .iload_n 1, 1, 0, 0, 0, [], none),
  (11, .ireturn, 1, 0, 0, 0, [], none)]
set_option maxRecDepth 100000 in
theorem kX9_good : ab_def_ok mX9_good rX9_good := ⟨ab_mok_of 1522 110 1521 76 (by decide +kernel), [0, 0, 1203, 0, 0, 1204, 0, 0], by decide +kernel⟩
set_option maxRecDepth 100000 in
theorem vX9_good_0 {x : ab_Cx} {d mc ms : Nat} {Post : Option ab_V → List ab_Ob → Prop} (hx : ab_At x mX9_good d mc ms Post) (a1 : Int) (w0 : ab_Ob) (kc ks : Nat)
    (h : Post (some (ab_I a1)) [(ab_pf (ab_pf w0 1 0) 2 (-1))]) :
    ab_J x 0 [some (ab_O 0), some (ab_I a1)] [] [w0] kc ks := ab_go hx kX9_good.2 12 [] 0 h
def mX9_in : ab_M := ((yX9_in, cX9_in, 3, (some .boolean)), ([], [], [], false, false, 0), (true, 9, 3))
def rX9_in : List ab_R := [(0, .iload_n 0, 1, 0, 0, 0, [], none),
  (1, .iload_n 1, 1, 0, 0, 0, [], none),
  (2, .if_icmp .lt 12, 3, 0, 0, 0, [14], none),
  (5, .iload_n 0, 1, 0, 0, 0, [], none),
  (6, .iload_n 2, 1, 0, 0, 0, [], none),
  (7, .if_icmp .gt 7, 3, 0, 0, 0, [14], none),
  (10, .iconst 1, 1, 0, 0, 0, [], none),
  (11, .goto 4, 3, 0, 0, 0, [15], none),
  (14, .iconst 0, 1, 0, 0, 0, [], none),
  (15, .ireturn, 1, 0, 0, 0, [], none)]
set_option maxRecDepth 100000 in
theorem kX9_in : ab_def_ok mX9_in rX9_in := ⟨ab_mok_of 1389 110 1388 0 (by decide +kernel), [0, 0, 0, 0, 0, 0, 0, 0, 0, 0], by decide +kernel⟩
set_option maxRecDepth 100000 in
theorem vX9_in_0 {x : ab_Cx} {d mc ms : Nat} {Post : Option ab_V → List ab_Ob → Prop} (hx : ab_At x mX9_in d mc ms Post) (a0 a1 a2 : Int) (kc ks : Nat)
    (h : ((a0 < a1 → (((0 : Int) = 0 ∨ (0 : Int) = 1) ∧ Post (some (ab_I 0)) [])) ∧ (¬ a0 < a1 → ((a2 < a0 → (((0 : Int) = 0 ∨ (0 : Int) = 1) ∧ Post (some (ab_I 0)) [])) ∧ (¬ a2 < a0 → (((1 : Int) = 0 ∨ (1 : Int) = 1) ∧ Post (some (ab_I 1)) [])))))) :
    ab_J x 0 [some (ab_I a0), some (ab_I a1), some (ab_I a2)] [] [] kc ks := ab_go hx kX9_in.2 13 [] 0 h
def mX9_byteAt : ab_M := ((yX9_byteAt, cX9_byteAt, 2, (some .int)), ([9], [(0, 0)], [false], false, false, 0), (false, 9, 1))
def rX9_byteAt : List ab_R := [(0, .iload_n 1, 1, 0, 0, 0, [], none),
  (1, .aload_n 0, 1, 0, 0, 0, [], none),
  (2, .getfield 106, 3, 9, 18, 0, [], none),
  (5, .if_icmp .ge 16, 3, 0, 0, 0, [21], none),
  (8, .aload_n 0, 1, 0, 0, 0, [], none),
  (9, .getfield 23, 3, 9, 16, 0, [], none),
  (12, .iload_n 1, 1, 0, 0, 0, [], none),
  (13, .baload, 1, 0, 0, 0, [], none),
  (14, .sipush 255, 3, 0, 0, 0, [], none),
  (17, .iand, 1, 0, 0, 0, [], none),
  (18, .goto 4, 3, 0, 0, 0, [22], none),
  (21, .iconst (-1), 1, 0, 0, 0, [], none),
  (22, .ireturn, 1, 0, 0, 0, [], none)]
set_option maxRecDepth 100000 in
theorem kX9_byteAt : ab_def_ok mX9_byteAt rX9_byteAt := ⟨ab_mok_of 1386 110 1385 49 (by decide +kernel), [0, 0, 1220, 0, 0, 1218, 0, 0, 0, 0, 0, 0, 0], by decide +kernel⟩
set_option maxRecDepth 100000 in
theorem vX9_byteAt_0 {x : ab_Cx} {d mc ms : Nat} {Post : Option ab_V → List ab_Ob → Prop} (hx : ab_At x mX9_byteAt d mc ms Post) (a1 : Int) (w0 : ab_Ob) (kc ks : Nat)
    (h : (((w0.1 18) ≤ a1 → Post (some (ab_I (-1))) [w0]) ∧ (¬ (w0.1 18) ≤ a1 → ((0 ≤ a1 ∧ a1 < (w0.2 16).1) ∧ Post (some (ab_I ((Int32.ofInt ((w0.2 16).2 a1) &&& Int32.ofInt 255).toInt))) [w0])))) :
    ab_J x 0 [some (ab_O 0), some (ab_I a1)] [] [w0] kc ks := ab_go hx kX9_byteAt.2 16 [] 0 h
def mX9_nextWord : ab_M := ((yX9_nextWord, cX9_nextWord, 1, none), ([9], [(0, 0)], [true], false, false, 0), (false, 9, 0))
def rX9_nextWord : List ab_R := [(0, .aload_n 0, 1, 0, 0, 0, [], none),
  (1, .lconst 0, 1, 0, 0, 0, [], none),
  (2, .putfield 135, 3, 9, 24, 0, [], none),
  (5, .aload_n 0, 1, 0, 0, 0, [], none),
  (6, .aload_n 0, 1, 0, 0, 0, [], none),
  (7, .getfield 112, 3, 9, 19, 0, [], none),
  (10, .invokevirtual 115, 3, 0, 0, 0, [], some mX9_byteAt),
  (13, .bipush 97, 2, 0, 0, 0, [], none),
  (15, .bipush 122, 2, 0, 0, 0, [], none),
  (17, .invokestatic 125, 3, 0, 0, 0, [], some mX9_in),
  (20, .ifCond .eq 51, 3, 0, 0, 0, [71], none),
  (23, .aload_n 0, 1, 0, 0, 0, [], none),
  (24, .getfield 112, 3, 9, 19, 0, [], none),
  (27, .aload_n 0, 1, 0, 0, 0, [], none),
  (28, .getfield 119, 3, 9, 21, 0, [], none),
  (31, .isub, 1, 0, 0, 0, [], none),
  (32, .bipush 6, 2, 0, 0, 0, [], none),
  (34, .if_icmp .ge 24, 3, 0, 0, 0, [58], none),
  (37, .aload_n 0, 1, 0, 0, 0, [], none),
  (38, .aload_n 0, 1, 0, 0, 0, [], none),
  (39, .getfield 135, 3, 9, 24, 0, [], none),
  (42, .bipush 8, 2, 0, 0, 0, [], none),
  (44, .lshl, 1, 0, 0, 0, [], none),
  (45, .aload_n 0, 1, 0, 0, 0, [], none),
  (46, .aload_n 0, 1, 0, 0, 0, [], none),
  (47, .getfield 112, 3, 9, 19, 0, [], none),
  (50, .invokevirtual 115, 3, 0, 0, 0, [], some mX9_byteAt),
  (53, .i2l, 1, 0, 0, 0, [], none),
  (54, .lor, 1, 0, 0, 0, [], none),
  (55, .putfield 135, 3, 9, 24, 0, [], none),
  (58, .aload_n 0, 1, 0, 0, 0, [], none),
  (59, .dup, 1, 0, 0, 0, [], none),
  (60, .getfield 112, 3, 9, 19, 0, [], none),
  (63, .iconst 1, 1, 0, 0, 0, [], none),
  (64, .iadd, 1, 0, 0, 0, [], none),
  (65, .putfield 112, 3, 9, 19, 0, [], none),
  (68, .goto (-63), 3, 0, 0, 0, [5], none),
  (71, .aload_n 0, 1, 0, 0, 0, [], none),
  (72, .aload_n 0, 1, 0, 0, 0, [], none),
  (73, .getfield 112, 3, 9, 19, 0, [], none),
  (76, .aload_n 0, 1, 0, 0, 0, [], none),
  (77, .getfield 119, 3, 9, 21, 0, [], none),
  (80, .isub, 1, 0, 0, 0, [], none),
  (81, .bipush 6, 2, 0, 0, 0, [], none),
  (83, .if_icmp .le 7, 3, 0, 0, 0, [90], none),
  (86, .iconst 0, 1, 0, 0, 0, [], none),
  (87, .goto 4, 3, 0, 0, 0, [91], none),
  (90, .iconst 2, 1, 0, 0, 0, [], none),
  (91, .putfield 122, 3, 9, 20, 0, [], none),
  (94, .return_, 1, 0, 0, 0, [], none)]
set_option maxRecDepth 100000 in
theorem kX9_nextWord : ab_def_ok mX9_nextWord rX9_nextWord := ⟨ab_mok_of 1393 110 1392 50 (by decide +kernel), [0, 0, 1226, 0, 0, 1221, 1383, 0, 0, 1387, 0, 0, 1221, 0, 1223, 0, 0, 0, 0, 0, 1226, 0, 0, 0, 0, 1221, 1383, 0, 0, 1226, 0, 0, 1221, 0, 0, 1221, 0, 0, 0, 1221, 0, 1223, 0, 0, 0, 0, 0, 0, 1222, 0], by decide +kernel⟩
set_option maxRecDepth 100000 in
theorem vX9_nextWord_0 {x : ab_Cx} {d mc ms : Nat} {Post : Option ab_V → List ab_Ob → Prop} (hx : ab_At x mX9_nextWord d mc ms Post) (w0 : ab_Ob) (kc ks : Nat)
    (h : ab_J x 5 [some (ab_O 0)] [] [(ab_pf w0 24 0)] kc ks) :
    ab_J x 0 [some (ab_O 0)] [] [w0] kc ks := ab_go hx kX9_nextWord.2 8 [(5, [true])] 0 h
set_option maxRecDepth 100000 in
theorem vX9_nextWord_5 {x : ab_Cx} {d mc ms : Nat} {Post : Option ab_V → List ab_Ob → Prop} (hx : ab_At x mX9_nextWord d mc ms Post) (w0 : ab_Ob) (kc ks : Nat)
    (h : (∃ r1 : Int, ab_Calls d 0 0 mX9_byteAt [ab_O 0, ab_I (w0.1 19)] [w0] (some (ab_I r1)) [w0] ∧ (∃ r2 : Int, ab_Calls d 0 0 mX9_in [ab_I r1, ab_I 97, ab_I 122] [] (some (ab_I r2)) [] ∧ ((r2 = 0 → ((-2147483648 ≤ (w0.1 19) - (w0.1 21) ∧ (w0.1 19) - (w0.1 21) ≤ 2147483647) ∧ ((((w0.1 19) - (w0.1 21)) ≤ 6 → Post none [(ab_pf w0 20 2)]) ∧ (¬ ((w0.1 19) - (w0.1 21)) ≤ 6 → Post none [(ab_pf w0 20 0)])))) ∧ (¬ r2 = 0 → ((-2147483648 ≤ (w0.1 19) - (w0.1 21) ∧ (w0.1 19) - (w0.1 21) ≤ 2147483647) ∧ ((6 ≤ ((w0.1 19) - (w0.1 21)) → ((-2147483648 ≤ (w0.1 19) + 1 ∧ (w0.1 19) + 1 ≤ 2147483647) ∧ ab_J x 5 [some (ab_O 0)] [] [(ab_pf w0 19 ((w0.1 19) + 1))] kc ks)) ∧ (¬ 6 ≤ ((w0.1 19) - (w0.1 21)) → (∃ r3 : Int, ab_Calls d 0 0 mX9_byteAt [ab_O 0, ab_I (w0.1 19)] [w0] (some (ab_I r3)) [w0] ∧ ((-2147483648 ≤ (w0.1 19) + 1 ∧ (w0.1 19) + 1 ≤ 2147483647) ∧ ab_J x 5 [some (ab_O 0)] [] [(ab_pf (ab_pf w0 24 ((Int64.ofInt ((Int64.ofInt (w0.1 24) <<< ((Int32.ofInt 8).toInt64 &&& 63)).toInt) ||| Int64.ofInt r3).toInt)) 19 ((w0.1 19) + 1))] kc ks)))))))))) :
    ab_J x 5 [some (ab_O 0)] [] [w0] kc ks := ab_go hx kX9_nextWord.2 39 [(5, [true])] 5 h
def mX9_nextWhole : ab_M := ((yX9_nextWhole, cX9_nextWhole, 1, none), ([9], [(0, 0)], [true], false, false, 0), (false, 9, 0))
def rX9_nextWhole : List ab_R := [(0, .aload_n 0, 1, 0, 0, 0, [], none),
  (1, .iconst 0, 1, 0, 0, 0, [], none),
  (2, .putfield 139, 3, 9, 22, 0, [], none),
  (5, .aload_n 0, 1, 0, 0, 0, [], none),
  (6, .aload_n 0, 1, 0, 0, 0, [], none),
  (7, .getfield 112, 3, 9, 19, 0, [], none),
  (10, .invokevirtual 115, 3, 0, 0, 0, [], some mX9_byteAt),
  (13, .bipush 48, 2, 0, 0, 0, [], none),
  (15, .bipush 57, 2, 0, 0, 0, [], none),
  (17, .invokestatic 125, 3, 0, 0, 0, [], some mX9_in),
  (20, .ifCond .eq 52, 3, 0, 0, 0, [72], none),
  (23, .aload_n 0, 1, 0, 0, 0, [], none),
  (24, .getfield 112, 3, 9, 19, 0, [], none),
  (27, .aload_n 0, 1, 0, 0, 0, [], none),
  (28, .getfield 119, 3, 9, 21, 0, [], none),
  (31, .isub, 1, 0, 0, 0, [], none),
  (32, .iconst 2, 1, 0, 0, 0, [], none),
  (33, .if_icmp .ge 26, 3, 0, 0, 0, [59], none),
  (36, .aload_n 0, 1, 0, 0, 0, [], none),
  (37, .bipush 10, 2, 0, 0, 0, [], none),
  (39, .aload_n 0, 1, 0, 0, 0, [], none),
  (40, .getfield 139, 3, 9, 22, 0, [], none),
  (43, .imul, 1, 0, 0, 0, [], none),
  (44, .aload_n 0, 1, 0, 0, 0, [], none),
  (45, .aload_n 0, 1, 0, 0, 0, [], none),
  (46, .getfield 112, 3, 9, 19, 0, [], none),
  (49, .invokevirtual 115, 3, 0, 0, 0, [], some mX9_byteAt),
  (52, .iadd, 1, 0, 0, 0, [], none),
  (53, .bipush 48, 2, 0, 0, 0, [], none),
  (55, .isub, 1, 0, 0, 0, [], none),
  (56, .putfield 139, 3, 9, 22, 0, [], none),
  (59, .aload_n 0, 1, 0, 0, 0, [], none),
  (60, .dup, 1, 0, 0, 0, [], none),
  (61, .getfield 112, 3, 9, 19, 0, [], none),
  (64, .iconst 1, 1, 0, 0, 0, [], none),
  (65, .iadd, 1, 0, 0, 0, [], none),
  (66, .putfield 112, 3, 9, 19, 0, [], none),
  (69, .goto (-64), 3, 0, 0, 0, [5], none),
  (72, .aload_n 0, 1, 0, 0, 0, [], none),
  (73, .aload_n 0, 1, 0, 0, 0, [], none),
  (74, .getfield 112, 3, 9, 19, 0, [], none),
  (77, .aload_n 0, 1, 0, 0, 0, [], none),
  (78, .getfield 119, 3, 9, 21, 0, [], none),
  (81, .isub, 1, 0, 0, 0, [], none),
  (82, .iconst 2, 1, 0, 0, 0, [], none),
  (83, .if_icmp .le 7, 3, 0, 0, 0, [90], none),
  (86, .iconst 0, 1, 0, 0, 0, [], none),
  (87, .goto 4, 3, 0, 0, 0, [91], none),
  (90, .iconst 3, 1, 0, 0, 0, [], none),
  (91, .putfield 122, 3, 9, 20, 0, [], none),
  (94, .return_, 1, 0, 0, 0, [], none)]
set_option maxRecDepth 100000 in
theorem kX9_nextWhole : ab_def_ok mX9_nextWhole rX9_nextWhole := ⟨ab_mok_of 1397 110 1396 51 (by decide +kernel), [0, 0, 1224, 0, 0, 1221, 1383, 0, 0, 1387, 0, 0, 1221, 0, 1223, 0, 0, 0, 0, 0, 0, 1224, 0, 0, 0, 1221, 1383, 0, 0, 0, 1224, 0, 0, 1221, 0, 0, 1221, 0, 0, 0, 1221, 0, 1223, 0, 0, 0, 0, 0, 0, 1222, 0], by decide +kernel⟩
set_option maxRecDepth 100000 in
theorem vX9_nextWhole_0 {x : ab_Cx} {d mc ms : Nat} {Post : Option ab_V → List ab_Ob → Prop} (hx : ab_At x mX9_nextWhole d mc ms Post) (w0 : ab_Ob) (kc ks : Nat)
    (h : ab_J x 5 [some (ab_O 0)] [] [(ab_pf w0 22 0)] kc ks) :
    ab_J x 0 [some (ab_O 0)] [] [w0] kc ks := ab_go hx kX9_nextWhole.2 8 [(5, [true])] 0 h
set_option maxRecDepth 100000 in
theorem vX9_nextWhole_5 {x : ab_Cx} {d mc ms : Nat} {Post : Option ab_V → List ab_Ob → Prop} (hx : ab_At x mX9_nextWhole d mc ms Post) (w0 : ab_Ob) (kc ks : Nat)
    (h : (∃ r1 : Int, ab_Calls d 0 0 mX9_byteAt [ab_O 0, ab_I (w0.1 19)] [w0] (some (ab_I r1)) [w0] ∧ (∃ r2 : Int, ab_Calls d 0 0 mX9_in [ab_I r1, ab_I 48, ab_I 57] [] (some (ab_I r2)) [] ∧ ((r2 = 0 → ((-2147483648 ≤ (w0.1 19) - (w0.1 21) ∧ (w0.1 19) - (w0.1 21) ≤ 2147483647) ∧ ((((w0.1 19) - (w0.1 21)) ≤ 2 → Post none [(ab_pf w0 20 3)]) ∧ (¬ ((w0.1 19) - (w0.1 21)) ≤ 2 → Post none [(ab_pf w0 20 0)])))) ∧ (¬ r2 = 0 → ((-2147483648 ≤ (w0.1 19) - (w0.1 21) ∧ (w0.1 19) - (w0.1 21) ≤ 2147483647) ∧ ((2 ≤ ((w0.1 19) - (w0.1 21)) → ((-2147483648 ≤ (w0.1 19) + 1 ∧ (w0.1 19) + 1 ≤ 2147483647) ∧ ab_J x 5 [some (ab_O 0)] [] [(ab_pf w0 19 ((w0.1 19) + 1))] kc ks)) ∧ (¬ 2 ≤ ((w0.1 19) - (w0.1 21)) → ((-2147483648 ≤ 10 * (w0.1 22) ∧ 10 * (w0.1 22) ≤ 2147483647) ∧ (∃ r3 : Int, ab_Calls d 0 0 mX9_byteAt [ab_O 0, ab_I (w0.1 19)] [w0] (some (ab_I r3)) [w0] ∧ ((-2147483648 ≤ (10 * (w0.1 22)) + r3 ∧ (10 * (w0.1 22)) + r3 ≤ 2147483647) ∧ ((-2147483648 ≤ ((10 * (w0.1 22)) + r3) - 48 ∧ ((10 * (w0.1 22)) + r3) - 48 ≤ 2147483647) ∧ ((-2147483648 ≤ (w0.1 19) + 1 ∧ (w0.1 19) + 1 ≤ 2147483647) ∧ ab_J x 5 [some (ab_O 0)] [] [(ab_pf (ab_pf w0 22 (((10 * (w0.1 22)) + r3) - 48)) 19 ((w0.1 19) + 1))] kc ks))))))))))))) :
    ab_J x 5 [some (ab_O 0)] [] [w0] kc ks := ab_go hx kX9_nextWhole.2 40 [(5, [true])] 5 h
def mX9_next : ab_M := ((yX9_next, cX9_next, 2, none), ([9], [(0, 0)], [true], false, false, 0), (false, 9, 0))
def rX9_next : List ab_R := [(0, .aload_n 0, 1, 0, 0, 0, [], none),
  (1, .getfield 109, 3, 9, 23, 0, [], none),
  (4, .ifCond .le 4, 3, 0, 0, 0, [8], none),
  (7, .return_, 1, 0, 0, 0, [], none),
  (8, .aload_n 0, 1, 0, 0, 0, [], none),
  (9, .aload_n 0, 1, 0, 0, 0, [], none),
  (10, .getfield 112, 3, 9, 19, 0, [], none),
  (13, .invokevirtual 115, 3, 0, 0, 0, [], some mX9_byteAt),
  (16, .bipush 32, 2, 0, 0, 0, [], none),
  (18, .if_icmp .ne 16, 3, 0, 0, 0, [34], none),
  (21, .aload_n 0, 1, 0, 0, 0, [], none),
  (22, .dup, 1, 0, 0, 0, [], none),
  (23, .getfield 112, 3, 9, 19, 0, [], none),
  (26, .iconst 1, 1, 0, 0, 0, [], none),
  (27, .iadd, 1, 0, 0, 0, [], none),
  (28, .putfield 112, 3, 9, 19, 0, [], none),
  (31, .goto (-23), 3, 0, 0, 0, [8], none),
  (34, .aload_n 0, 1, 0, 0, 0, [], none),
  (35, .aload_n 0, 1, 0, 0, 0, [], none),
  (36, .getfield 112, 3, 9, 19, 0, [], none),
  (39, .putfield 119, 3, 9, 21, 0, [], none),
  (42, .aload_n 0, 1, 0, 0, 0, [], none),
  (43, .aload_n 0, 1, 0, 0, 0, [], none),
  (44, .getfield 112, 3, 9, 19, 0, [], none),
  (47, .invokevirtual 115, 3, 0, 0, 0, [], some mX9_byteAt),
  (50, .istore_n 1, 1, 0, 0, 0, [], none),
  (51, .iload_n 1, 1, 0, 0, 0, [], none),
  (52, .iconst (-1), 1, 0, 0, 0, [], none),
  (53, .if_icmp .ne 11, 3, 0, 0, 0, [64], none),
  (56, .aload_n 0, 1, 0, 0, 0, [], none),
  (57, .iconst 1, 1, 0, 0, 0, [], none),
  (58, .putfield 122, 3, 9, 20, 0, [], none),
  (61, .goto 64, 3, 0, 0, 0, [125], none),
  (64, .iload_n 1, 1, 0, 0, 0, [], none),
  (65, .bipush 97, 2, 0, 0, 0, [], none),
  (67, .bipush 122, 2, 0, 0, 0, [], none),
  (69, .invokestatic 125, 3, 0, 0, 0, [], some mX9_in),
  (72, .ifCond .eq 10, 3, 0, 0, 0, [82], none),
  (75, .aload_n 0, 1, 0, 0, 0, [], none),
  (76, .invokevirtual 129, 3, 0, 0, 0, [], some mX9_nextWord),
  (79, .goto 46, 3, 0, 0, 0, [125], none),
  (82, .iload_n 1, 1, 0, 0, 0, [], none),
  (83, .bipush 48, 2, 0, 0, 0, [], none),
  (85, .bipush 57, 2, 0, 0, 0, [], none),
  (87, .invokestatic 125, 3, 0, 0, 0, [], some mX9_in),
  (90, .ifCond .eq 10, 3, 0, 0, 0, [100], none),
  (93, .aload_n 0, 1, 0, 0, 0, [], none),
  (94, .invokevirtual 132, 3, 0, 0, 0, [], some mX9_nextWhole),
  (97, .goto 28, 3, 0, 0, 0, [125], none),
  (100, .aload_n 0, 1, 0, 0, 0, [], none),
  (101, .iload_n 1, 1, 0, 0, 0, [], none),
  (102, .bipush 59, 2, 0, 0, 0, [], none),
  (104, .if_icmp .ne 7, 3, 0, 0, 0, [111], none),
  (107, .iconst 4, 1, 0, 0, 0, [], none),
  (108, .goto 4, 3, 0, 0, 0, [112], none),
  (111, .iconst 0, 1, 0, 0, 0, [], none),
  (112, .putfield 122, 3, 9, 20, 0, [], none),
  (115, .aload_n 0, 1, 0, 0, 0, [], none),
  (116, .dup, 1, 0, 0, 0, [], none),
  (117, .getfield 112, 3, 9, 19, 0, [], none),
  (120, .iconst 1, 1, 0, 0, 0, [], none),
  (121, .iadd, 1, 0, 0, 0, [], none),
  (122, .putfield 112, 3, 9, 19, 0, [], none),
  (125, .return_, 1, 0, 0, 0, [], none)]
set_option maxRecDepth 100000 in
theorem kX9_next : ab_def_ok mX9_next rX9_next := ⟨ab_mok_of 1382 110 1381 48 (by decide +kernel), [0, 1225, 0, 0, 0, 0, 1221, 1383, 0, 0, 0, 0, 1221, 0, 0, 1221, 0, 0, 0, 1221, 1223, 0, 0, 1221, 1383, 0, 0, 0, 0, 0, 0, 1222, 0, 0, 0, 0, 1387, 0, 0, 1390, 0, 0, 0, 0, 1387, 0, 0, 1394, 0, 0, 0, 0, 0, 0, 0, 0, 1222, 0, 0, 1221, 0, 0, 1221, 0], by decide +kernel⟩
set_option maxRecDepth 100000 in
theorem vX9_next_0 {x : ab_Cx} {d mc ms : Nat} {Post : Option ab_V → List ab_Ob → Prop} (hx : ab_At x mX9_next d mc ms Post) (w0 : ab_Ob) (kc ks : Nat)
    (h : (((w0.1 23) ≤ 0 → ab_J x 8 [some (ab_O 0), none] [] [w0] kc ks) ∧ (¬ (w0.1 23) ≤ 0 → Post none [w0]))) :
    ab_J x 0 [some (ab_O 0), none] [] [w0] kc ks := ab_go hx kX9_next.2 8 [(8, [true, false])] 0 h
set_option maxRecDepth 100000 in
theorem vX9_next_8 {x : ab_Cx} {d mc ms : Nat} {Post : Option ab_V → List ab_Ob → Prop} (hx : ab_At x mX9_next d mc ms Post) (w0 : ab_Ob) (kc ks : Nat)
    (h : (∃ r1 : Int, ab_Calls d 0 0 mX9_byteAt [ab_O 0, ab_I (w0.1 19)] [w0] (some (ab_I r1)) [w0] ∧ ((¬ r1 = 32 → (∃ r2 : Int, ab_Calls d 0 0 mX9_byteAt [ab_O 0, ab_I (w0.1 19)] [(ab_pf w0 21 (w0.1 19))] (some (ab_I r2)) [(ab_pf w0 21 (w0.1 19))] ∧ ((¬ r2 = (-1) → (∃ r3 : Int, ab_Calls d 0 0 mX9_in [ab_I r2, ab_I 97, ab_I 122] [] (some (ab_I r3)) [] ∧ ((r3 = 0 → (∃ r4 : Int, ab_Calls d 0 0 mX9_in [ab_I r2, ab_I 48, ab_I 57] [] (some (ab_I r4)) [] ∧ ((r4 = 0 → ((¬ r2 = 59 → ((-2147483648 ≤ (w0.1 19) + 1 ∧ (w0.1 19) + 1 ≤ 2147483647) ∧ Post none [(ab_pf (ab_pf (ab_pf w0 21 (w0.1 19)) 20 0) 19 ((w0.1 19) + 1))])) ∧ (r2 = 59 → ((-2147483648 ≤ (w0.1 19) + 1 ∧ (w0.1 19) + 1 ≤ 2147483647) ∧ Post none [(ab_pf (ab_pf (ab_pf w0 21 (w0.1 19)) 20 4) 19 ((w0.1 19) + 1))])))) ∧ (¬ r4 = 0 → (∃ v5 : ab_Ob, ab_Calls d 0 0 mX9_nextWhole [ab_O 0] [(ab_pf w0 21 (w0.1 19))] none [v5] ∧ Post none [v5]))))) ∧ (¬ r3 = 0 → (∃ v6 : ab_Ob, ab_Calls d 0 0 mX9_nextWord [ab_O 0] [(ab_pf w0 21 (w0.1 19))] none [v6] ∧ Post none [v6]))))) ∧ (r2 = (-1) → Post none [(ab_pf (ab_pf w0 21 (w0.1 19)) 20 1)])))) ∧ (r1 = 32 → ((-2147483648 ≤ (w0.1 19) + 1 ∧ (w0.1 19) + 1 ≤ 2147483647) ∧ ab_J x 8 [some (ab_O 0), none] [] [(ab_pf w0 19 ((w0.1 19) + 1))] kc ks))))) :
    ab_J x 8 [some (ab_O 0), none] [] [w0] kc ks := ab_go hx kX9_next.2 46 [(8, [true, false])] 8 h
def mX9_flaw : ab_M := ((yX9_flaw, cX9_flaw, 2, none), ([9], [(0, 0)], [true], false, false, 0), (false, 9, 1))
def rX9_flaw : List ab_R := [(0, .aload_n 0, 1, 0, 0, 0, [], none),
  (1, .getfield 109, 3, 9, 23, 0, [], none),
  (4, .ifCond .ne 8, 3, 0, 0, 0, [12], none),
  (7, .aload_n 0, 1, 0, 0, 0, [], none),
  (8, .iload_n 1, 1, 0, 0, 0, [], none),
  (9, .putfield 109, 3, 9, 23, 0, [], none),
  (12, .aload_n 0, 1, 0, 0, 0, [], none),
  (13, .iconst 0, 1, 0, 0, 0, [], none),
  (14, .putfield 122, 3, 9, 20, 0, [], none),
  (17, .return_, 1, 0, 0, 0, [], none)]
set_option maxRecDepth 100000 in
theorem kX9_flaw : ab_def_ok mX9_flaw rX9_flaw := ⟨ab_mok_of 1416 110 1415 55 (by decide +kernel), [0, 1225, 0, 0, 0, 1225, 0, 0, 1222, 0], by decide +kernel⟩
set_option maxRecDepth 100000 in
theorem vX9_flaw_0 {x : ab_Cx} {d mc ms : Nat} {Post : Option ab_V → List ab_Ob → Prop} (hx : ab_At x mX9_flaw d mc ms Post) (a1 : Int) (w0 : ab_Ob) (kc ks : Nat)
    (h : ((¬ (w0.1 23) = 0 → Post none [(ab_pf w0 20 0)]) ∧ ((w0.1 23) = 0 → Post none [(ab_pf (ab_pf w0 23 a1) 20 0)]))) :
    ab_J x 0 [some (ab_O 0), some (ab_I a1)] [] [w0] kc ks := ab_go hx kX9_flaw.2 14 [] 0 h
def mX9_isWord : ab_M := ((yX9_isWord, cX9_isWord, 5, (some .boolean)), ([9], [(0, 0)], [false], false, false, 0), (false, 9, 1))
def rX9_isWord : List ab_R := [(0, .lconst 0, 1, 0, 0, 0, [], none),
  (1, .lstore_n 2, 1, 0, 0, 0, [], none),
  (2, .iconst 0, 1, 0, 0, 0, [], none),
  (3, .istore 4, 2, 0, 0, 0, [], none),
  (5, .iload 4, 2, 0, 0, 0, [], none),
  (7, .aload_n 1, 1, 0, 0, 0, [], none),
  (8, .invokevirtual 142, 3, 0, 0, 0, [], some mJ_length),
  (11, .if_icmp .ge 22, 3, 0, 0, 0, [33], none),
  (14, .lload_n 2, 1, 0, 0, 0, [], none),
  (15, .bipush 8, 2, 0, 0, 0, [], none),
  (17, .lshl, 1, 0, 0, 0, [], none),
  (18, .aload_n 1, 1, 0, 0, 0, [], none),
  (19, .iload 4, 2, 0, 0, 0, [], none),
  (21, .invokevirtual 148, 3, 0, 0, 0, [], some mJ_charAt),
  (24, .i2l, 1, 0, 0, 0, [], none),
  (25, .lor, 1, 0, 0, 0, [], none),
  (26, .lstore_n 2, 1, 0, 0, 0, [], none),
  (27, .iinc 4 1, 3, 0, 0, 0, [], none),
  (30, .goto (-25), 3, 0, 0, 0, [5], none),
  (33, .aload_n 0, 1, 0, 0, 0, [], none),
  (34, .getfield 122, 3, 9, 20, 0, [], none),
  (37, .iconst 2, 1, 0, 0, 0, [], none),
  (38, .if_icmp .ne 16, 3, 0, 0, 0, [54], none),
  (41, .aload_n 0, 1, 0, 0, 0, [], none),
  (42, .getfield 135, 3, 9, 24, 0, [], none),
  (45, .lload_n 2, 1, 0, 0, 0, [], none),
  (46, .lcmp, 1, 0, 0, 0, [], none),
  (47, .ifCond .ne 7, 3, 0, 0, 0, [54], none),
  (50, .iconst 1, 1, 0, 0, 0, [], none),
  (51, .goto 4, 3, 0, 0, 0, [55], none),
  (54, .iconst 0, 1, 0, 0, 0, [], none),
  (55, .ireturn, 1, 0, 0, 0, [], none)]
set_option maxRecDepth 100000 in
theorem kX9_isWord : ab_def_ok mX9_isWord rX9_isWord := ⟨ab_mok_of 1406 110 1405 53 (by decide +kernel), [0, 0, 0, 0, 0, 0, 1407, 0, 0, 0, 0, 0, 0, 1408, 0, 0, 0, 0, 0, 0, 1222, 0, 0, 0, 1226, 0, 0, 0, 0, 0, 0, 0], by decide +kernel⟩
set_option maxRecDepth 100000 in
theorem vX9_isWord_0 {x : ab_Cx} {d mc ms : Nat} {Post : Option ab_V → List ab_Ob → Prop} (hx : ab_At x mX9_isWord d mc ms Post) (n1 : Nat) (w0 : ab_Ob) (kc ks : Nat)
    (h : ab_J x 5 [some (ab_O 0), some (ab_S n1), some (ab_L 0), none, some (ab_I 0)] [] [w0] kc ks) :
    ab_J x 0 [some (ab_O 0), some (ab_S n1), none, none, none] [] [w0] kc ks := ab_go hx kX9_isWord.2 9 [(5, [true, true, true, false, true])] 0 h
set_option maxRecDepth 100000 in
theorem vX9_isWord_5 {x : ab_Cx} {d mc ms : Nat} {Post : Option ab_V → List ab_Ob → Prop} (hx : ab_At x mX9_isWord d mc ms Post) (l2 l4 : Int) (n1 : Nat) (w0 : ab_Ob) (kc ks : Nat)
    (h : (n1 < 12 ∧ ∃ r1 : Int, ab_Calls d 0 0 mJ_length [ab_S n1] [] (some (ab_I r1)) [] ∧ ((r1 ≤ l4 → ((¬ (w0.1 20) = 2 → (((0 : Int) = 0 ∨ (0 : Int) = 1) ∧ Post (some (ab_I 0)) [w0])) ∧ ((w0.1 20) = 2 → ((¬ (ab_cmp (w0.1 24) l2) = 0 → (((0 : Int) = 0 ∨ (0 : Int) = 1) ∧ Post (some (ab_I 0)) [w0])) ∧ ((ab_cmp (w0.1 24) l2) = 0 → (((1 : Int) = 0 ∨ (1 : Int) = 1) ∧ Post (some (ab_I 1)) [w0])))))) ∧ (¬ r1 ≤ l4 → (n1 < 12 ∧ ∃ r2 : Int, ab_Calls d 0 0 mJ_charAt [ab_S n1, ab_I l4] [] (some (ab_I r2)) [] ∧ ((-2147483648 ≤ l4 + 1 ∧ l4 + 1 ≤ 2147483647) ∧ ab_J x 5 [some (ab_O 0), some (ab_S n1), some (ab_L ((Int64.ofInt ((Int64.ofInt l2 <<< ((Int32.ofInt 8).toInt64 &&& 63)).toInt) ||| Int64.ofInt r2).toInt)), none, some (ab_I (l4 + 1))] [] [w0] kc ks)))))) :
    ab_J x 5 [some (ab_O 0), some (ab_S n1), some (ab_L l2), none, some (ab_I l4)] [] [w0] kc ks := ab_go hx kX9_isWord.2 20 [(5, [true, true, true, false, true])] 5 h
def mX9_readWhole : ab_M := ((yX9_readWhole, cX9_readWhole, 4, (some .int)), ([9], [(0, 0)], [true], false, false, 0), (false, 9, 2))
def rX9_readWhole : List ab_R := [(0, .aload_n 0, 1, 0, 0, 0, [], none),
  (1, .getfield 122, 3, 9, 20, 0, [], none),
  (4, .iconst 3, 1, 0, 0, 0, [], none),
  (5, .if_icmp .eq 11, 3, 0, 0, 0, [16], none),
  (8, .aload_n 0, 1, 0, 0, 0, [], none),
  (9, .iconst 1, 1, 0, 0, 0, [], none),
  (10, .invokevirtual 152, 3, 0, 0, 0, [], some mX9_flaw),
  (13, .goto 20, 3, 0, 0, 0, [33], none),
  (16, .aload_n 0, 1, 0, 0, 0, [], none),
  (17, .getfield 139, 3, 9, 22, 0, [], none),
  (20, .iload_n 1, 1, 0, 0, 0, [], none),
  (21, .iload_n 2, 1, 0, 0, 0, [], none),
  (22, .invokestatic 125, 3, 0, 0, 0, [], some mX9_in),
  (25, .ifCond .ne 8, 3, 0, 0, 0, [33], none),
  (28, .aload_n 0, 1, 0, 0, 0, [], none),
  (29, .iconst 2, 1, 0, 0, 0, [], none),
  (30, .invokevirtual 152, 3, 0, 0, 0, [], some mX9_flaw),
  (33, .aload_n 0, 1, 0, 0, 0, [], none),
  (34, .getfield 139, 3, 9, 22, 0, [], none),
  (37, .istore_n 3, 1, 0, 0, 0, [], none),
  (38, .aload_n 0, 1, 0, 0, 0, [], none),
  (39, .invokevirtual 156, 3, 0, 0, 0, [], some mX9_next),
  (42, .aload_n 0, 1, 0, 0, 0, [], none),
  (43, .getfield 109, 3, 9, 23, 0, [], none),
  (46, .ifCond .le 7, 3, 0, 0, 0, [53], none),
  (49, .iload_n 1, 1, 0, 0, 0, [], none),
  (50, .goto 4, 3, 0, 0, 0, [54], none),
  (53, .iload_n 3, 1, 0, 0, 0, [], none),
  (54, .ireturn, 1, 0, 0, 0, [], none)]
set_option maxRecDepth 100000 in
theorem kX9_readWhole : ab_def_ok mX9_readWhole rX9_readWhole := ⟨ab_mok_of 1425 110 1424 57 (by decide +kernel), [0, 1222, 0, 0, 0, 0, 1413, 0, 0, 1224, 0, 0, 1387, 0, 0, 0, 1413, 0, 1224, 0, 0, 1379, 0, 1225, 0, 0, 0, 0, 0], by decide +kernel⟩
set_option maxRecDepth 100000 in
theorem vX9_readWhole_0 {x : ab_Cx} {d mc ms : Nat} {Post : Option ab_V → List ab_Ob → Prop} (hx : ab_At x mX9_readWhole d mc ms Post) (a1 a2 : Int) (w0 : ab_Ob) (kc ks : Nat)
    (h : (((w0.1 20) = 3 → (∃ r1 : Int, ab_Calls d 0 0 mX9_in [ab_I (w0.1 22), ab_I a1, ab_I a2] [] (some (ab_I r1)) [] ∧ ((¬ r1 = 0 → (∃ v2 : ab_Ob, ab_Calls d 0 0 mX9_next [ab_O 0] [w0] none [v2] ∧ (((v2.1 23) ≤ 0 → Post (some (ab_I (w0.1 22))) [v2]) ∧ (¬ (v2.1 23) ≤ 0 → Post (some (ab_I a1)) [v2])))) ∧ (r1 = 0 → (∃ v3 : ab_Ob, ab_Calls d 0 0 mX9_flaw [ab_O 0, ab_I 2] [w0] none [v3] ∧ (∃ v4 : ab_Ob, ab_Calls d 0 0 mX9_next [ab_O 0] [v3] none [v4] ∧ (((v4.1 23) ≤ 0 → Post (some (ab_I (v3.1 22))) [v4]) ∧ (¬ (v4.1 23) ≤ 0 → Post (some (ab_I a1)) [v4])))))))) ∧ (¬ (w0.1 20) = 3 → (∃ v5 : ab_Ob, ab_Calls d 0 0 mX9_flaw [ab_O 0, ab_I 1] [w0] none [v5] ∧ (∃ v6 : ab_Ob, ab_Calls d 0 0 mX9_next [ab_O 0] [v5] none [v6] ∧ (((v6.1 23) ≤ 0 → Post (some (ab_I (v5.1 22))) [v6]) ∧ (¬ (v6.1 23) ≤ 0 → Post (some (ab_I a1)) [v6]))))))) :
    ab_J x 0 [some (ab_O 0), some (ab_I a1), some (ab_I a2), none] [] [w0] kc ks := ab_go hx kX9_readWhole.2 28 [] 0 h
def mX9_readPart : ab_M := ((yX9_readPart, cX9_readPart, 4, (some .int)), ([9], [(0, 0)], [true], false, false, 0), (false, 9, 3))
def rX9_readPart : List ab_R := [(0, .aload_n 0, 1, 0, 0, 0, [], none),
  (1, .aload_n 1, 1, 0, 0, 0, [], none),
  (2, .invokevirtual 159, 3, 0, 0, 0, [], some mX9_isWord),
  (5, .ifCond .ne 8, 3, 0, 0, 0, [13], none),
  (8, .aload_n 0, 1, 0, 0, 0, [], none),
  (9, .iconst 1, 1, 0, 0, 0, [], none),
  (10, .invokevirtual 152, 3, 0, 0, 0, [], some mX9_flaw),
  (13, .aload_n 0, 1, 0, 0, 0, [], none),
  (14, .invokevirtual 156, 3, 0, 0, 0, [], some mX9_next),
  (17, .aload_n 0, 1, 0, 0, 0, [], none),
  (18, .iload_n 2, 1, 0, 0, 0, [], none),
  (19, .iload_n 3, 1, 0, 0, 0, [], none),
  (20, .invokevirtual 163, 3, 0, 0, 0, [], some mX9_readWhole),
  (23, .ireturn, 1, 0, 0, 0, [], none)]
set_option maxRecDepth 100000 in
theorem kX9_readPart : ab_def_ok mX9_readPart rX9_readPart := ⟨ab_mok_of 1421 110 1420 56 (by decide +kernel), [0, 0, 1403, 0, 0, 0, 1413, 0, 1379, 0, 0, 0, 1422, 0], by decide +kernel⟩
set_option maxRecDepth 100000 in
theorem vX9_readPart_0 {x : ab_Cx} {d mc ms : Nat} {Post : Option ab_V → List ab_Ob → Prop} (hx : ab_At x mX9_readPart d mc ms Post) (a2 a3 : Int) (n1 : Nat) (w0 : ab_Ob) (kc ks : Nat)
    (h : (∃ r1 : Int, ab_Calls d 0 0 mX9_isWord [ab_O 0, ab_S n1] [w0] (some (ab_I r1)) [w0] ∧ ((¬ r1 = 0 → (∃ v2 : ab_Ob, ab_Calls d 0 0 mX9_next [ab_O 0] [w0] none [v2] ∧ (∃ r3 : Int, ∃ v4 : ab_Ob, ab_Calls d 0 0 mX9_readWhole [ab_O 0, ab_I a2, ab_I a3] [v2] (some (ab_I r3)) [v4] ∧ Post (some (ab_I r3)) [v4]))) ∧ (r1 = 0 → (∃ v5 : ab_Ob, ab_Calls d 0 0 mX9_flaw [ab_O 0, ab_I 1] [w0] none [v5] ∧ (∃ v6 : ab_Ob, ab_Calls d 0 0 mX9_next [ab_O 0] [v5] none [v6] ∧ (∃ r7 : Int, ∃ v8 : ab_Ob, ab_Calls d 0 0 mX9_readWhole [ab_O 0, ab_I a2, ab_I a3] [v6] (some (ab_I r7)) [v8] ∧ Post (some (ab_I r7)) [v8]))))))) :
    ab_J x 0 [some (ab_O 0), some (ab_S n1), some (ab_I a2), some (ab_I a3)] [] [w0] kc ks := ab_go hx kX9_readPart.2 18 [] 0 h
def mX9_readPiece : ab_M := ((yX9_readPiece, cX9_readPiece, 2, none), ([9], [(0, 0)], [true], false, false, 0), (false, 9, 0))
def rX9_readPiece : List ab_R := [(0, .aload_n 0, 1, 0, 0, 0, [], none),
  (1, .getfield 167, 3, 9, 10, 0, [], none),
  (4, .ifCond .le 8, 3, 0, 0, 0, [12], none),
  (7, .aload_n 0, 1, 0, 0, 0, [], none),
  (8, .iconst 3, 1, 0, 0, 0, [], none),
  (9, .invokevirtual 152, 3, 0, 0, 0, [], some mX9_flaw),
  (12, .aload_n 0, 1, 0, 0, 0, [], none),
  (13, .invokevirtual 156, 3, 0, 0, 0, [], some mX9_next),
  (16, .aload_n 0, 1, 0, 0, 0, [], none),
  (17, .ldc 194, 2, 0, 3, 1, [], none),
  (19, .iconst 1, 1, 0, 0, 0, [], none),
  (20, .bipush 64, 2, 0, 0, 0, [], none),
  (22, .invokevirtual 196, 3, 0, 0, 0, [], some mX9_readPart),
  (25, .istore_n 1, 1, 0, 0, 0, [], none),
  (26, .aload_n 0, 1, 0, 0, 0, [], none),
  (27, .aload_n 0, 1, 0, 0, 0, [], none),
  (28, .ldc 200, 2, 0, 4, 1, [], none),
  (30, .iconst 1, 1, 0, 0, 0, [], none),
  (31, .iload_n 1, 1, 0, 0, 0, [], none),
  (32, .invokevirtual 196, 3, 0, 0, 0, [], some mX9_readPart),
  (35, .putfield 202, 3, 9, 11, 0, [], none),
  (38, .aload_n 0, 1, 0, 0, 0, [], none),
  (39, .getfield 17, 3, 9, 4, 0, [], none),
  (42, .bipush 54, 2, 0, 0, 0, [], none),
  (44, .aload_n 0, 1, 0, 0, 0, [], none),
  (45, .ldc 205, 2, 0, 5, 1, [], none),
  (47, .iconst 0, 1, 0, 0, 0, [], none),
  (48, .bipush 11, 2, 0, 0, 0, [], none),
  (50, .invokevirtual 196, 3, 0, 0, 0, [], some mX9_readPart),
  (53, .iastore, 1, 0, 0, 0, [], none),
  (54, .aload_n 0, 1, 0, 0, 0, [], none),
  (55, .getfield 109, 3, 9, 23, 0, [], none),
  (58, .ifCond .ne 8, 3, 0, 0, 0, [66], none),
  (61, .aload_n 0, 1, 0, 0, 0, [], none),
  (62, .iload_n 1, 1, 0, 0, 0, [], none),
  (63, .putfield 167, 3, 9, 10, 0, [], none),
  (66, .return_, 1, 0, 0, 0, [], none)]
set_option maxRecDepth 100000 in
theorem kX9_readPiece : ab_def_ok mX9_readPiece rX9_readPiece := ⟨ab_mok_of 1412 110 1411 54 (by decide +kernel), [0, 1212, 0, 0, 0, 1413, 0, 1379, 0, 0, 0, 0, 1418, 0, 0, 0, 0, 0, 0, 1418, 1213, 0, 1206, 0, 0, 0, 0, 0, 1418, 0, 0, 1225, 0, 0, 0, 1212, 0], by decide +kernel⟩
set_option maxRecDepth 100000 in
theorem vX9_readPiece_0 {x : ab_Cx} {d mc ms : Nat} {Post : Option ab_V → List ab_Ob → Prop} (hx : ab_At x mX9_readPiece d mc ms Post) (w0 : ab_Ob) (kc ks : Nat)
    (h : (((w0.1 10) ≤ 0 → (∃ v1 : ab_Ob, ab_Calls d 0 0 mX9_next [ab_O 0] [w0] none [v1] ∧ (∃ r2 : Int, ∃ v3 : ab_Ob, ab_Calls d 0 0 mX9_readPart [ab_O 0, ab_S 3, ab_I 1, ab_I 64] [v1] (some (ab_I r2)) [v3] ∧ (∃ r4 : Int, ∃ v5 : ab_Ob, ab_Calls d 0 0 mX9_readPart [ab_O 0, ab_S 4, ab_I 1, ab_I r2] [v3] (some (ab_I r4)) [v5] ∧ (∃ r6 : Int, ∃ v7 : ab_Ob, ab_Calls d 0 0 mX9_readPart [ab_O 0, ab_S 5, ab_I 0, ab_I 11] [(ab_pf v5 11 r4)] (some (ab_I r6)) [v7] ∧ ((0 ≤ (54 : Int) ∧ (54 : Int) < (v7.2 4).1) ∧ ((¬ (v7.1 23) = 0 → Post none [(ab_pa v7 4 54 r6)]) ∧ ((v7.1 23) = 0 → Post none [(ab_pf (ab_pa v7 4 54 r6) 10 r2)])))))))) ∧ (¬ (w0.1 10) ≤ 0 → (∃ v8 : ab_Ob, ab_Calls d 0 0 mX9_flaw [ab_O 0, ab_I 3] [w0] none [v8] ∧ (∃ v9 : ab_Ob, ab_Calls d 0 0 mX9_next [ab_O 0] [v8] none [v9] ∧ (∃ r10 : Int, ∃ v11 : ab_Ob, ab_Calls d 0 0 mX9_readPart [ab_O 0, ab_S 3, ab_I 1, ab_I 64] [v9] (some (ab_I r10)) [v11] ∧ (∃ r12 : Int, ∃ v13 : ab_Ob, ab_Calls d 0 0 mX9_readPart [ab_O 0, ab_S 4, ab_I 1, ab_I r10] [v11] (some (ab_I r12)) [v13] ∧ (∃ r14 : Int, ∃ v15 : ab_Ob, ab_Calls d 0 0 mX9_readPart [ab_O 0, ab_S 5, ab_I 0, ab_I 11] [(ab_pf v13 11 r12)] (some (ab_I r14)) [v15] ∧ ((0 ≤ (54 : Int) ∧ (54 : Int) < (v15.2 4).1) ∧ ((¬ (v15.1 23) = 0 → Post none [(ab_pa v15 4 54 r14)]) ∧ ((v15.1 23) = 0 → Post none [(ab_pf (ab_pa v15 4 54 r14) 10 r10)]))))))))))) :
    ab_J x 0 [some (ab_O 0), none] [] [w0] kc ks := ab_go hx kX9_readPiece.2 41 [] 0 h
def mX9_begins : ab_M := ((yX9_begins, cX9_begins, 2, none), ([9], [(0, 0)], [true], false, false, 0), (false, 9, 1))
def rX9_begins : List ab_R := [(0, .iload_n 1, 1, 0, 0, 0, [], none),
  (1, .ifCond .eq 8, 3, 0, 0, 0, [9], none),
  (4, .aload_n 0, 1, 0, 0, 0, [], none),
  (5, .iconst 4, 1, 0, 0, 0, [], none),
  (6, .invokevirtual 152, 3, 0, 0, 0, [], some mX9_flaw),
  (9, .aload_n 0, 1, 0, 0, 0, [], none),
  (10, .getfield 167, 3, 9, 10, 0, [], none),
  (13, .ifCond .ne 8, 3, 0, 0, 0, [21], none),
  (16, .aload_n 0, 1, 0, 0, 0, [], none),
  (17, .iconst 5, 1, 0, 0, 0, [], none),
  (18, .invokevirtual 152, 3, 0, 0, 0, [], some mX9_flaw),
  (21, .aload_n 0, 1, 0, 0, 0, [], none),
  (22, .invokevirtual 156, 3, 0, 0, 0, [], some mX9_next),
  (25, .return_, 1, 0, 0, 0, [], none)]
set_option maxRecDepth 100000 in
theorem kX9_begins : ab_def_ok mX9_begins rX9_begins := ⟨ab_mok_of 1436 110 1435 59 (by decide +kernel), [0, 0, 0, 0, 1413, 0, 1212, 0, 0, 0, 1413, 0, 1379, 0], by decide +kernel⟩
set_option maxRecDepth 100000 in
theorem vX9_begins_0 {x : ab_Cx} {d mc ms : Nat} {Post : Option ab_V → List ab_Ob → Prop} (hx : ab_At x mX9_begins d mc ms Post) (a1 : Int) (w0 : ab_Ob) (kc ks : Nat)
    (h : ((a1 = 0 → ((¬ (w0.1 10) = 0 → (∃ v1 : ab_Ob, ab_Calls d 0 0 mX9_next [ab_O 0] [w0] none [v1] ∧ Post none [v1])) ∧ ((w0.1 10) = 0 → (∃ v2 : ab_Ob, ab_Calls d 0 0 mX9_flaw [ab_O 0, ab_I 5] [w0] none [v2] ∧ (∃ v3 : ab_Ob, ab_Calls d 0 0 mX9_next [ab_O 0] [v2] none [v3] ∧ Post none [v3]))))) ∧ (¬ a1 = 0 → (∃ v4 : ab_Ob, ab_Calls d 0 0 mX9_flaw [ab_O 0, ab_I 4] [w0] none [v4] ∧ ((¬ (v4.1 10) = 0 → (∃ v5 : ab_Ob, ab_Calls d 0 0 mX9_next [ab_O 0] [v4] none [v5] ∧ Post none [v5])) ∧ ((v4.1 10) = 0 → (∃ v6 : ab_Ob, ab_Calls d 0 0 mX9_flaw [ab_O 0, ab_I 5] [v4] none [v6] ∧ (∃ v7 : ab_Ob, ab_Calls d 0 0 mX9_next [ab_O 0] [v6] none [v7] ∧ Post none [v7])))))))) :
    ab_J x 0 [some (ab_O 0), some (ab_I a1)] [] [w0] kc ks := ab_go hx kX9_begins.2 18 [] 0 h
def mX9_readNote : ab_M := ((yX9_readNote, cX9_readNote, 3, none), ([9], [(0, 0)], [true], false, false, 0), (false, 9, 0))
def rX9_readNote : List ab_R := [(0, .aload_n 0, 1, 0, 0, 0, [], none),
  (1, .aload_n 0, 1, 0, 0, 0, [], none),
  (2, .getfield 170, 3, 9, 12, 0, [], none),
  (5, .bipush 24, 2, 0, 0, 0, [], none),
  (7, .if_icmp .ne 7, 3, 0, 0, 0, [14], none),
  (10, .iconst 1, 1, 0, 0, 0, [], none),
  (11, .goto 4, 3, 0, 0, 0, [15], none),
  (14, .iconst 0, 1, 0, 0, 0, [], none),
  (15, .invokevirtual 207, 3, 0, 0, 0, [], some mX9_begins),
  (18, .aload_n 0, 1, 0, 0, 0, [], none),
  (19, .iconst 0, 1, 0, 0, 0, [], none),
  (20, .bipush 99, 2, 0, 0, 0, [], none),
  (22, .invokevirtual 163, 3, 0, 0, 0, [], some mX9_readWhole),
  (25, .istore_n 1, 1, 0, 0, 0, [], none),
  (26, .aload_n 0, 1, 0, 0, 0, [], none),
  (27, .ldc 211, 2, 0, 6, 1, [], none),
  (29, .iconst 1, 1, 0, 0, 0, [], none),
  (30, .bipush 64, 2, 0, 0, 0, [], none),
  (32, .invokevirtual 196, 3, 0, 0, 0, [], some mX9_readPart),
  (35, .istore_n 2, 1, 0, 0, 0, [], none),
  (36, .aload_n 0, 1, 0, 0, 0, [], none),
  (37, .getfield 109, 3, 9, 23, 0, [], none),
  (40, .ifCond .le 4, 3, 0, 0, 0, [44], none),
  (43, .return_, 1, 0, 0, 0, [], none),
  (44, .aload_n 0, 1, 0, 0, 0, [], none),
  (45, .getfield 17, 3, 9, 4, 0, [], none),
  (48, .iconst 0, 1, 0, 0, 0, [], none),
  (49, .aload_n 0, 1, 0, 0, 0, [], none),
  (50, .getfield 170, 3, 9, 12, 0, [], none),
  (53, .iadd, 1, 0, 0, 0, [], none),
  (54, .iload_n 1, 1, 0, 0, 0, [], none),
  (55, .iastore, 1, 0, 0, 0, [], none),
  (56, .aload_n 0, 1, 0, 0, 0, [], none),
  (57, .getfield 17, 3, 9, 4, 0, [], none),
  (60, .bipush 24, 2, 0, 0, 0, [], none),
  (62, .aload_n 0, 1, 0, 0, 0, [], none),
  (63, .getfield 170, 3, 9, 12, 0, [], none),
  (66, .iadd, 1, 0, 0, 0, [], none),
  (67, .iload_n 2, 1, 0, 0, 0, [], none),
  (68, .iastore, 1, 0, 0, 0, [], none),
  (69, .aload_n 0, 1, 0, 0, 0, [], none),
  (70, .dup, 1, 0, 0, 0, [], none),
  (71, .getfield 170, 3, 9, 12, 0, [], none),
  (74, .iconst 1, 1, 0, 0, 0, [], none),
  (75, .iadd, 1, 0, 0, 0, [], none),
  (76, .putfield 170, 3, 9, 12, 0, [], none),
  (79, .return_, 1, 0, 0, 0, [], none)]
set_option maxRecDepth 100000 in
theorem kX9_readNote : ab_def_ok mX9_readNote rX9_readNote := ⟨ab_mok_of 1432 110 1431 58 (by decide +kernel), [0, 0, 1214, 0, 0, 0, 0, 0, 1433, 0, 0, 0, 1422, 0, 0, 0, 0, 0, 1418, 0, 0, 1225, 0, 0, 0, 1206, 0, 0, 1214, 0, 0, 0, 0, 1206, 0, 0, 1214, 0, 0, 0, 0, 0, 1214, 0, 0, 1214, 0], by decide +kernel⟩
set_option maxRecDepth 100000 in
theorem vX9_readNote_0 {x : ab_Cx} {d mc ms : Nat} {Post : Option ab_V → List ab_Ob → Prop} (hx : ab_At x mX9_readNote d mc ms Post) (w0 : ab_Ob) (kc ks : Nat)
    (h : ((¬ (w0.1 12) = 24 → (∃ v1 : ab_Ob, ab_Calls d 0 0 mX9_begins [ab_O 0, ab_I 0] [w0] none [v1] ∧ (∃ r2 : Int, ∃ v3 : ab_Ob, ab_Calls d 0 0 mX9_readWhole [ab_O 0, ab_I 0, ab_I 99] [v1] (some (ab_I r2)) [v3] ∧ (∃ r4 : Int, ∃ v5 : ab_Ob, ab_Calls d 0 0 mX9_readPart [ab_O 0, ab_S 6, ab_I 1, ab_I 64] [v3] (some (ab_I r4)) [v5] ∧ (((v5.1 23) ≤ 0 → ((-2147483648 ≤ 0 + (v5.1 12) ∧ 0 + (v5.1 12) ≤ 2147483647) ∧ ((0 ≤ (0 + (v5.1 12)) ∧ (0 + (v5.1 12)) < (v5.2 4).1) ∧ ((-2147483648 ≤ 24 + (v5.1 12) ∧ 24 + (v5.1 12) ≤ 2147483647) ∧ ((0 ≤ (24 + (v5.1 12)) ∧ (24 + (v5.1 12)) < (v5.2 4).1) ∧ ((-2147483648 ≤ (v5.1 12) + 1 ∧ (v5.1 12) + 1 ≤ 2147483647) ∧ Post none [(ab_pf (ab_pa (ab_pa v5 4 (0 + (v5.1 12)) r2) 4 (24 + (v5.1 12)) r4) 12 ((v5.1 12) + 1))])))))) ∧ (¬ (v5.1 23) ≤ 0 → Post none [v5])))))) ∧ ((w0.1 12) = 24 → (∃ v6 : ab_Ob, ab_Calls d 0 0 mX9_begins [ab_O 0, ab_I 1] [w0] none [v6] ∧ (∃ r7 : Int, ∃ v8 : ab_Ob, ab_Calls d 0 0 mX9_readWhole [ab_O 0, ab_I 0, ab_I 99] [v6] (some (ab_I r7)) [v8] ∧ (∃ r9 : Int, ∃ v10 : ab_Ob, ab_Calls d 0 0 mX9_readPart [ab_O 0, ab_S 6, ab_I 1, ab_I 64] [v8] (some (ab_I r9)) [v10] ∧ (((v10.1 23) ≤ 0 → ((-2147483648 ≤ 0 + (v10.1 12) ∧ 0 + (v10.1 12) ≤ 2147483647) ∧ ((0 ≤ (0 + (v10.1 12)) ∧ (0 + (v10.1 12)) < (v10.2 4).1) ∧ ((-2147483648 ≤ 24 + (v10.1 12) ∧ 24 + (v10.1 12) ≤ 2147483647) ∧ ((0 ≤ (24 + (v10.1 12)) ∧ (24 + (v10.1 12)) < (v10.2 4).1) ∧ ((-2147483648 ≤ (v10.1 12) + 1 ∧ (v10.1 12) + 1 ≤ 2147483647) ∧ Post none [(ab_pf (ab_pa (ab_pa v10 4 (0 + (v10.1 12)) r7) 4 (24 + (v10.1 12)) r9) 12 ((v10.1 12) + 1))])))))) ∧ (¬ (v10.1 23) ≤ 0 → Post none [v10])))))))) :
    ab_J x 0 [some (ab_O 0), none, none] [] [w0] kc ks := ab_go hx kX9_readNote.2 49 [] 0 h
def mX9_ruleHere : ab_M := ((yX9_ruleHere, cX9_ruleHere, 1, (some .int)), ([9], [(0, 0)], [false], false, false, 0), (false, 9, 0))
def rX9_ruleHere : List ab_R := [(0, .aload_n 0, 1, 0, 0, 0, [], none),
  (1, .ldc 213, 2, 0, 7, 1, [], none),
  (3, .invokevirtual 159, 3, 0, 0, 0, [], some mX9_isWord),
  (6, .ifCond .eq 7, 3, 0, 0, 0, [13], none),
  (9, .iconst 0, 1, 0, 0, 0, [], none),
  (10, .goto 69, 3, 0, 0, 0, [79], none),
  (13, .aload_n 0, 1, 0, 0, 0, [], none),
  (14, .ldc 211, 2, 0, 6, 1, [], none),
  (16, .invokevirtual 159, 3, 0, 0, 0, [], some mX9_isWord),
  (19, .ifCond .eq 7, 3, 0, 0, 0, [26], none),
  (22, .iconst 1, 1, 0, 0, 0, [], none),
  (23, .goto 56, 3, 0, 0, 0, [79], none),
  (26, .aload_n 0, 1, 0, 0, 0, [], none),
  (27, .ldc 215, 2, 0, 8, 1, [], none),
  (29, .invokevirtual 159, 3, 0, 0, 0, [], some mX9_isWord),
  (32, .ifCond .eq 7, 3, 0, 0, 0, [39], none),
  (35, .iconst 2, 1, 0, 0, 0, [], none),
  (36, .goto 43, 3, 0, 0, 0, [79], none),
  (39, .aload_n 0, 1, 0, 0, 0, [], none),
  (40, .ldc 217, 2, 0, 9, 1, [], none),
  (42, .invokevirtual 159, 3, 0, 0, 0, [], some mX9_isWord),
  (45, .ifCond .eq 7, 3, 0, 0, 0, [52], none),
  (48, .iconst 3, 1, 0, 0, 0, [], none),
  (49, .goto 30, 3, 0, 0, 0, [79], none),
  (52, .aload_n 0, 1, 0, 0, 0, [], none),
  (53, .ldc 219, 2, 0, 10, 1, [], none),
  (55, .invokevirtual 159, 3, 0, 0, 0, [], some mX9_isWord),
  (58, .ifCond .eq 7, 3, 0, 0, 0, [65], none),
  (61, .iconst 4, 1, 0, 0, 0, [], none),
  (62, .goto 17, 3, 0, 0, 0, [79], none),
  (65, .aload_n 0, 1, 0, 0, 0, [], none),
  (66, .ldc 221, 2, 0, 11, 1, [], none),
  (68, .invokevirtual 159, 3, 0, 0, 0, [], some mX9_isWord),
  (71, .ifCond .eq 7, 3, 0, 0, 0, [78], none),
  (74, .iconst 5, 1, 0, 0, 0, [], none),
  (75, .goto 4, 3, 0, 0, 0, [79], none),
  (78, .iconst (-1), 1, 0, 0, 0, [], none),
  (79, .ireturn, 1, 0, 0, 0, [], none)]
set_option maxRecDepth 100000 in
theorem kX9_ruleHere : ab_def_ok mX9_ruleHere rX9_ruleHere := ⟨ab_mok_of 1446 110 1445 61 (by decide +kernel), [0, 0, 1403, 0, 0, 0, 0, 0, 1403, 0, 0, 0, 0, 0, 1403, 0, 0, 0, 0, 0, 1403, 0, 0, 0, 0, 0, 1403, 0, 0, 0, 0, 0, 1403, 0, 0, 0, 0, 0], by decide +kernel⟩
set_option maxRecDepth 100000 in
theorem vX9_ruleHere_0 {x : ab_Cx} {d mc ms : Nat} {Post : Option ab_V → List ab_Ob → Prop} (hx : ab_At x mX9_ruleHere d mc ms Post) (w0 : ab_Ob) (kc ks : Nat)
    (h : (∃ r1 : Int, ab_Calls d 0 0 mX9_isWord [ab_O 0, ab_S 7] [w0] (some (ab_I r1)) [w0] ∧ ((r1 = 0 → (∃ r2 : Int, ab_Calls d 0 0 mX9_isWord [ab_O 0, ab_S 6] [w0] (some (ab_I r2)) [w0] ∧ ((r2 = 0 → (∃ r3 : Int, ab_Calls d 0 0 mX9_isWord [ab_O 0, ab_S 8] [w0] (some (ab_I r3)) [w0] ∧ ((r3 = 0 → (∃ r4 : Int, ab_Calls d 0 0 mX9_isWord [ab_O 0, ab_S 9] [w0] (some (ab_I r4)) [w0] ∧ ((r4 = 0 → (∃ r5 : Int, ab_Calls d 0 0 mX9_isWord [ab_O 0, ab_S 10] [w0] (some (ab_I r5)) [w0] ∧ ((r5 = 0 → (∃ r6 : Int, ab_Calls d 0 0 mX9_isWord [ab_O 0, ab_S 11] [w0] (some (ab_I r6)) [w0] ∧ ((r6 = 0 → Post (some (ab_I (-1))) [w0]) ∧ (¬ r6 = 0 → Post (some (ab_I 5)) [w0])))) ∧ (¬ r5 = 0 → Post (some (ab_I 4)) [w0])))) ∧ (¬ r4 = 0 → Post (some (ab_I 3)) [w0])))) ∧ (¬ r3 = 0 → Post (some (ab_I 2)) [w0])))) ∧ (¬ r2 = 0 → Post (some (ab_I 1)) [w0])))) ∧ (¬ r1 = 0 → Post (some (ab_I 0)) [w0])))) :
    ab_J x 0 [some (ab_O 0)] [] [w0] kc ks := ab_go hx kX9_ruleHere.2 31 [] 0 h
def mX9_readRule : ab_M := ((yX9_readRule, cX9_readRule, 3, none), ([9], [(0, 0)], [true], false, false, 0), (false, 9, 0))
def rX9_readRule : List ab_R := [(0, .aload_n 0, 1, 0, 0, 0, [], none),
  (1, .iconst 0, 1, 0, 0, 0, [], none),
  (2, .invokevirtual 207, 3, 0, 0, 0, [], some mX9_begins),
  (5, .aload_n 0, 1, 0, 0, 0, [], none),
  (6, .invokevirtual 223, 3, 0, 0, 0, [], some mX9_ruleHere),
  (9, .istore_n 1, 1, 0, 0, 0, [], none),
  (10, .iload_n 1, 1, 0, 0, 0, [], none),
  (11, .iconst (-1), 1, 0, 0, 0, [], none),
  (12, .if_icmp .ne 11, 3, 0, 0, 0, [23], none),
  (15, .aload_n 0, 1, 0, 0, 0, [], none),
  (16, .iconst 1, 1, 0, 0, 0, [], none),
  (17, .invokevirtual 152, 3, 0, 0, 0, [], some mX9_flaw),
  (20, .goto 20, 3, 0, 0, 0, [40], none),
  (23, .aload_n 0, 1, 0, 0, 0, [], none),
  (24, .getfield 173, 3, 9, 13, 0, [], none),
  (27, .iload_n 1, 1, 0, 0, 0, [], none),
  (28, .ishr, 1, 0, 0, 0, [], none),
  (29, .iconst 1, 1, 0, 0, 0, [], none),
  (30, .iand, 1, 0, 0, 0, [], none),
  (31, .iconst 1, 1, 0, 0, 0, [], none),
  (32, .if_icmp .ne 8, 3, 0, 0, 0, [40], none),
  (35, .aload_n 0, 1, 0, 0, 0, [], none),
  (36, .iconst 3, 1, 0, 0, 0, [], none),
  (37, .invokevirtual 152, 3, 0, 0, 0, [], some mX9_flaw),
  (40, .aload_n 0, 1, 0, 0, 0, [], none),
  (41, .invokevirtual 156, 3, 0, 0, 0, [], some mX9_next),
  (44, .aload_n 0, 1, 0, 0, 0, [], none),
  (45, .iconst 0, 1, 0, 0, 0, [], none),
  (46, .bipush 99, 2, 0, 0, 0, [], none),
  (48, .invokevirtual 163, 3, 0, 0, 0, [], some mX9_readWhole),
  (51, .istore_n 2, 1, 0, 0, 0, [], none),
  (52, .aload_n 0, 1, 0, 0, 0, [], none),
  (53, .getfield 109, 3, 9, 23, 0, [], none),
  (56, .ifCond .le 4, 3, 0, 0, 0, [60], none),
  (59, .return_, 1, 0, 0, 0, [], none),
  (60, .aload_n 0, 1, 0, 0, 0, [], none),
  (61, .dup, 1, 0, 0, 0, [], none),
  (62, .getfield 173, 3, 9, 13, 0, [], none),
  (65, .iconst 1, 1, 0, 0, 0, [], none),
  (66, .iload_n 1, 1, 0, 0, 0, [], none),
  (67, .ishl, 1, 0, 0, 0, [], none),
  (68, .ior, 1, 0, 0, 0, [], none),
  (69, .putfield 173, 3, 9, 13, 0, [], none),
  (72, .aload_n 0, 1, 0, 0, 0, [], none),
  (73, .getfield 17, 3, 9, 4, 0, [], none),
  (76, .bipush 48, 2, 0, 0, 0, [], none),
  (78, .iload_n 1, 1, 0, 0, 0, [], none),
  (79, .iadd, 1, 0, 0, 0, [], none),
  (80, .iload_n 2, 1, 0, 0, 0, [], none),
  (81, .iastore, 1, 0, 0, 0, [], none),
  (82, .return_, 1, 0, 0, 0, [], none)]
set_option maxRecDepth 100000 in
theorem kX9_readRule : ab_def_ok mX9_readRule rX9_readRule := ⟨ab_mok_of 1442 110 1441 60 (by decide +kernel), [0, 0, 1433, 0, 1443, 0, 0, 0, 0, 0, 0, 1413, 0, 0, 1215, 0, 0, 0, 0, 0, 0, 0, 0, 1413, 0, 1379, 0, 0, 0, 1422, 0, 0, 1225, 0, 0, 0, 0, 1215, 0, 0, 0, 0, 1215, 0, 1206, 0, 0, 0, 0, 0, 0], by decide +kernel⟩
set_option maxRecDepth 100000 in
theorem vX9_readRule_0 {x : ab_Cx} {d mc ms : Nat} {Post : Option ab_V → List ab_Ob → Prop} (hx : ab_At x mX9_readRule d mc ms Post) (w0 : ab_Ob) (kc ks : Nat)
    (h : (∃ v1 : ab_Ob, ab_Calls d 0 0 mX9_begins [ab_O 0, ab_I 0] [w0] none [v1] ∧ (∃ r2 : Int, ab_Calls d 0 0 mX9_ruleHere [ab_O 0] [v1] (some (ab_I r2)) [v1] ∧ ((¬ r2 = (-1) → ((¬ ((Int32.ofInt ((Int32.ofInt (v1.1 13) >>> (Int32.ofInt r2 &&& 31)).toInt) &&& Int32.ofInt 1).toInt) = 1 → (∃ v3 : ab_Ob, ab_Calls d 0 0 mX9_next [ab_O 0] [v1] none [v3] ∧ (∃ r4 : Int, ∃ v5 : ab_Ob, ab_Calls d 0 0 mX9_readWhole [ab_O 0, ab_I 0, ab_I 99] [v3] (some (ab_I r4)) [v5] ∧ (((v5.1 23) ≤ 0 → ((-2147483648 ≤ 48 + r2 ∧ 48 + r2 ≤ 2147483647) ∧ ((0 ≤ (48 + r2) ∧ (48 + r2) < (v5.2 4).1) ∧ Post none [(ab_pa (ab_pf v5 13 ((Int32.ofInt (v5.1 13) ||| Int32.ofInt ((Int32.ofInt 1 <<< (Int32.ofInt r2 &&& 31)).toInt)).toInt)) 4 (48 + r2) r4)]))) ∧ (¬ (v5.1 23) ≤ 0 → Post none [v5]))))) ∧ (((Int32.ofInt ((Int32.ofInt (v1.1 13) >>> (Int32.ofInt r2 &&& 31)).toInt) &&& Int32.ofInt 1).toInt) = 1 → (∃ v6 : ab_Ob, ab_Calls d 0 0 mX9_flaw [ab_O 0, ab_I 3] [v1] none [v6] ∧ (∃ v7 : ab_Ob, ab_Calls d 0 0 mX9_next [ab_O 0] [v6] none [v7] ∧ (∃ r8 : Int, ∃ v9 : ab_Ob, ab_Calls d 0 0 mX9_readWhole [ab_O 0, ab_I 0, ab_I 99] [v7] (some (ab_I r8)) [v9] ∧ (((v9.1 23) ≤ 0 → ((-2147483648 ≤ 48 + r2 ∧ 48 + r2 ≤ 2147483647) ∧ ((0 ≤ (48 + r2) ∧ (48 + r2) < (v9.2 4).1) ∧ Post none [(ab_pa (ab_pf v9 13 ((Int32.ofInt (v9.1 13) ||| Int32.ofInt ((Int32.ofInt 1 <<< (Int32.ofInt r2 &&& 31)).toInt)).toInt)) 4 (48 + r2) r8)]))) ∧ (¬ (v9.1 23) ≤ 0 → Post none [v9])))))))) ∧ (r2 = (-1) → (∃ v10 : ab_Ob, ab_Calls d 0 0 mX9_flaw [ab_O 0, ab_I 1] [v1] none [v10] ∧ (∃ v11 : ab_Ob, ab_Calls d 0 0 mX9_next [ab_O 0] [v10] none [v11] ∧ (∃ r12 : Int, ∃ v13 : ab_Ob, ab_Calls d 0 0 mX9_readWhole [ab_O 0, ab_I 0, ab_I 99] [v11] (some (ab_I r12)) [v13] ∧ (((v13.1 23) ≤ 0 → ((-2147483648 ≤ 48 + r2 ∧ 48 + r2 ≤ 2147483647) ∧ ((0 ≤ (48 + r2) ∧ (48 + r2) < (v13.2 4).1) ∧ Post none [(ab_pa (ab_pf v13 13 ((Int32.ofInt (v13.1 13) ||| Int32.ofInt ((Int32.ofInt 1 <<< (Int32.ofInt r2 &&& 31)).toInt)).toInt)) 4 (48 + r2) r12)]))) ∧ (¬ (v13.1 23) ≤ 0 → Post none [v13])))))))))) :
    ab_J x 0 [some (ab_O 0), none, none] [] [w0] kc ks := ab_go hx kX9_readRule.2 50 [] 0 h
def mX9_readLine : ab_M := ((yX9_readLine, cX9_readLine, 1, none), ([9], [(0, 0)], [true], false, false, 0), (false, 9, 0))
def rX9_readLine : List ab_R := [(0, .aload_n 0, 1, 0, 0, 0, [], none),
  (1, .ldc 179, 2, 0, 0, 1, [], none),
  (3, .invokevirtual 159, 3, 0, 0, 0, [], some mX9_isWord),
  (6, .ifCond .eq 10, 3, 0, 0, 0, [16], none),
  (9, .aload_n 0, 1, 0, 0, 0, [], none),
  (10, .invokevirtual 181, 3, 0, 0, 0, [], some mX9_readPiece),
  (13, .goto 40, 3, 0, 0, 0, [53], none),
  (16, .aload_n 0, 1, 0, 0, 0, [], none),
  (17, .ldc 184, 2, 0, 1, 1, [], none),
  (19, .invokevirtual 159, 3, 0, 0, 0, [], some mX9_isWord),
  (22, .ifCond .eq 10, 3, 0, 0, 0, [32], none),
  (25, .aload_n 0, 1, 0, 0, 0, [], none),
  (26, .invokevirtual 186, 3, 0, 0, 0, [], some mX9_readNote),
  (29, .goto 24, 3, 0, 0, 0, [53], none),
  (32, .aload_n 0, 1, 0, 0, 0, [], none),
  (33, .ldc 189, 2, 0, 2, 1, [], none),
  (35, .invokevirtual 159, 3, 0, 0, 0, [], some mX9_isWord),
  (38, .ifCond .eq 10, 3, 0, 0, 0, [48], none),
  (41, .aload_n 0, 1, 0, 0, 0, [], none),
  (42, .invokevirtual 191, 3, 0, 0, 0, [], some mX9_readRule),
  (45, .goto 8, 3, 0, 0, 0, [53], none),
  (48, .aload_n 0, 1, 0, 0, 0, [], none),
  (49, .iconst 1, 1, 0, 0, 0, [], none),
  (50, .invokevirtual 152, 3, 0, 0, 0, [], some mX9_flaw),
  (53, .return_, 1, 0, 0, 0, [], none)]
set_option maxRecDepth 100000 in
theorem kX9_readLine : ab_def_ok mX9_readLine rX9_readLine := ⟨ab_mok_of 1401 110 1400 52 (by decide +kernel), [0, 0, 1403, 0, 0, 1409, 0, 0, 0, 1403, 0, 0, 1429, 0, 0, 0, 1403, 0, 0, 1439, 0, 0, 0, 1413, 0], by decide +kernel⟩
set_option maxRecDepth 100000 in
theorem vX9_readLine_0 {x : ab_Cx} {d mc ms : Nat} {Post : Option ab_V → List ab_Ob → Prop} (hx : ab_At x mX9_readLine d mc ms Post) (w0 : ab_Ob) (kc ks : Nat)
    (h : (∃ r1 : Int, ab_Calls d 0 0 mX9_isWord [ab_O 0, ab_S 0] [w0] (some (ab_I r1)) [w0] ∧ ((r1 = 0 → (∃ r2 : Int, ab_Calls d 0 0 mX9_isWord [ab_O 0, ab_S 1] [w0] (some (ab_I r2)) [w0] ∧ ((r2 = 0 → (∃ r3 : Int, ab_Calls d 0 0 mX9_isWord [ab_O 0, ab_S 2] [w0] (some (ab_I r3)) [w0] ∧ ((r3 = 0 → (∃ v4 : ab_Ob, ab_Calls d 0 0 mX9_flaw [ab_O 0, ab_I 1] [w0] none [v4] ∧ Post none [v4])) ∧ (¬ r3 = 0 → (∃ v5 : ab_Ob, ab_Calls d 0 0 mX9_readRule [ab_O 0] [w0] none [v5] ∧ Post none [v5]))))) ∧ (¬ r2 = 0 → (∃ v6 : ab_Ob, ab_Calls d 0 0 mX9_readNote [ab_O 0] [w0] none [v6] ∧ Post none [v6]))))) ∧ (¬ r1 = 0 → (∃ v7 : ab_Ob, ab_Calls d 0 0 mX9_readPiece [ab_O 0] [w0] none [v7] ∧ Post none [v7]))))) :
    ab_J x 0 [some (ab_O 0)] [] [w0] kc ks := ab_go hx kX9_readLine.2 20 [] 0 h
def mX9_readAll : ab_M := ((yX9_readAll, cX9_readAll, 2, none), ([9], [(0, 0)], [true], false, false, 0), (false, 9, 0))
def rX9_readAll : List ab_R := [(0, .iconst 0, 1, 0, 0, 0, [], none),
  (1, .istore_n 1, 1, 0, 0, 0, [], none),
  (2, .iload_n 1, 1, 0, 0, 0, [], none),
  (3, .bipush 55, 2, 0, 0, 0, [], none),
  (5, .if_icmp .ge 16, 3, 0, 0, 0, [21], none),
  (8, .aload_n 0, 1, 0, 0, 0, [], none),
  (9, .getfield 17, 3, 9, 4, 0, [], none),
  (12, .iload_n 1, 1, 0, 0, 0, [], none),
  (13, .iconst 0, 1, 0, 0, 0, [], none),
  (14, .iastore, 1, 0, 0, 0, [], none),
  (15, .iinc 1 1, 3, 0, 0, 0, [], none),
  (18, .goto (-16), 3, 0, 0, 0, [2], none),
  (21, .aload_n 0, 1, 0, 0, 0, [], none),
  (22, .iconst 0, 1, 0, 0, 0, [], none),
  (23, .putfield 167, 3, 9, 10, 0, [], none),
  (26, .aload_n 0, 1, 0, 0, 0, [], none),
  (27, .iconst 0, 1, 0, 0, 0, [], none),
  (28, .putfield 170, 3, 9, 12, 0, [], none),
  (31, .aload_n 0, 1, 0, 0, 0, [], none),
  (32, .iconst 0, 1, 0, 0, 0, [], none),
  (33, .putfield 173, 3, 9, 13, 0, [], none),
  (36, .aload_n 0, 1, 0, 0, 0, [], none),
  (37, .invokevirtual 156, 3, 0, 0, 0, [], some mX9_next),
  (40, .aload_n 0, 1, 0, 0, 0, [], none),
  (41, .invokevirtual 176, 3, 0, 0, 0, [], some mX9_readLine),
  (44, .aload_n 0, 1, 0, 0, 0, [], none),
  (45, .getfield 122, 3, 9, 20, 0, [], none),
  (48, .iconst 4, 1, 0, 0, 0, [], none),
  (49, .if_icmp .ne 14, 3, 0, 0, 0, [63], none),
  (52, .aload_n 0, 1, 0, 0, 0, [], none),
  (53, .invokevirtual 156, 3, 0, 0, 0, [], some mX9_next),
  (56, .aload_n 0, 1, 0, 0, 0, [], none),
  (57, .invokevirtual 176, 3, 0, 0, 0, [], some mX9_readLine),
  (60, .goto (-16), 3, 0, 0, 0, [44], none),
  (63, .aload_n 0, 1, 0, 0, 0, [], none),
  (64, .getfield 122, 3, 9, 20, 0, [], none),
  (67, .iconst 1, 1, 0, 0, 0, [], none),
  (68, .if_icmp .eq 8, 3, 0, 0, 0, [76], none),
  (71, .aload_n 0, 1, 0, 0, 0, [], none),
  (72, .iconst 1, 1, 0, 0, 0, [], none),
  (73, .invokevirtual 152, 3, 0, 0, 0, [], some mX9_flaw),
  (76, .aload_n 0, 1, 0, 0, 0, [], none),
  (77, .getfield 109, 3, 9, 23, 0, [], none),
  (80, .ifCond .ne 15, 3, 0, 0, 0, [95], none),
  (83, .aload_n 0, 1, 0, 0, 0, [], none),
  (84, .getfield 170, 3, 9, 12, 0, [], none),
  (87, .ifCond .ne 8, 3, 0, 0, 0, [95], none),
  (90, .aload_n 0, 1, 0, 0, 0, [], none),
  (91, .iconst 5, 1, 0, 0, 0, [], none),
  (92, .invokevirtual 152, 3, 0, 0, 0, [], some mX9_flaw),
  (95, .return_, 1, 0, 0, 0, [], none)]
set_option maxRecDepth 100000 in
theorem kX9_readAll : ab_def_ok mX9_readAll rX9_readAll := ⟨ab_mok_of 1378 110 1377 47 (by decide +kernel), [0, 0, 0, 0, 0, 0, 1206, 0, 0, 0, 0, 0, 0, 0, 1212, 0, 0, 1214, 0, 0, 1215, 0, 1379, 0, 1398, 0, 1222, 0, 0, 0, 1379, 0, 1398, 0, 0, 1222, 0, 0, 0, 0, 1413, 0, 1225, 0, 0, 1214, 0, 0, 0, 1413, 0], by decide +kernel⟩
set_option maxRecDepth 100000 in
theorem vX9_readAll_0 {x : ab_Cx} {d mc ms : Nat} {Post : Option ab_V → List ab_Ob → Prop} (hx : ab_At x mX9_readAll d mc ms Post) (w0 : ab_Ob) (kc ks : Nat)
    (h : ab_J x 2 [some (ab_O 0), some (ab_I 0)] [] [w0] kc ks) :
    ab_J x 0 [some (ab_O 0), none] [] [w0] kc ks := ab_go hx kX9_readAll.2 7 [(2, [true, true]), (44, [true, false])] 0 h
set_option maxRecDepth 100000 in
theorem vX9_readAll_2 {x : ab_Cx} {d mc ms : Nat} {Post : Option ab_V → List ab_Ob → Prop} (hx : ab_At x mX9_readAll d mc ms Post) (l1 : Int) (w0 : ab_Ob) (kc ks : Nat)
    (h : ((55 ≤ l1 → (∃ v1 : ab_Ob, ab_Calls d 0 0 mX9_next [ab_O 0] [(ab_pf (ab_pf (ab_pf w0 10 0) 12 0) 13 0)] none [v1] ∧ (∃ v2 : ab_Ob, ab_Calls d 0 0 mX9_readLine [ab_O 0] [v1] none [v2] ∧ ab_J x 44 [some (ab_O 0), none] [] [v2] kc ks))) ∧ (¬ 55 ≤ l1 → ((0 ≤ l1 ∧ l1 < (w0.2 4).1) ∧ ((-2147483648 ≤ l1 + 1 ∧ l1 + 1 ≤ 2147483647) ∧ ab_J x 2 [some (ab_O 0), some (ab_I (l1 + 1))] [] [(ab_pa w0 4 l1 0)] kc ks))))) :
    ab_J x 2 [some (ab_O 0), some (ab_I l1)] [] [w0] kc ks := ab_go hx kX9_readAll.2 21 [(2, [true, true]), (44, [true, false])] 2 h
set_option maxRecDepth 100000 in
theorem vX9_readAll_44 {x : ab_Cx} {d mc ms : Nat} {Post : Option ab_V → List ab_Ob → Prop} (hx : ab_At x mX9_readAll d mc ms Post) (w0 : ab_Ob) (kc ks : Nat)
    (h : ((¬ (w0.1 20) = 4 → (((w0.1 20) = 1 → ((¬ (w0.1 23) = 0 → Post none [w0]) ∧ ((w0.1 23) = 0 → ((¬ (w0.1 12) = 0 → Post none [w0]) ∧ ((w0.1 12) = 0 → (∃ v1 : ab_Ob, ab_Calls d 0 0 mX9_flaw [ab_O 0, ab_I 5] [w0] none [v1] ∧ Post none [v1])))))) ∧ (¬ (w0.1 20) = 1 → (∃ v2 : ab_Ob, ab_Calls d 0 0 mX9_flaw [ab_O 0, ab_I 1] [w0] none [v2] ∧ ((¬ (v2.1 23) = 0 → Post none [v2]) ∧ ((v2.1 23) = 0 → ((¬ (v2.1 12) = 0 → Post none [v2]) ∧ ((v2.1 12) = 0 → (∃ v3 : ab_Ob, ab_Calls d 0 0 mX9_flaw [ab_O 0, ab_I 5] [v2] none [v3] ∧ Post none [v3]))))))))) ∧ ((w0.1 20) = 4 → (∃ v4 : ab_Ob, ab_Calls d 0 0 mX9_next [ab_O 0] [w0] none [v4] ∧ (∃ v5 : ab_Ob, ab_Calls d 0 0 mX9_readLine [ab_O 0] [v4] none [v5] ∧ ab_J x 44 [some (ab_O 0), none] [] [v5] kc ks))))) :
    ab_J x 44 [some (ab_O 0), none] [] [w0] kc ks := ab_go hx kX9_readAll.2 25 [(2, [true, true]), (44, [true, false])] 44 h
def mX9_feed : ab_M := ((yX9_feed, cX9_feed, 8, (some .int)), ([9], [(0, 0)], [true], false, false, 0), (false, 9, 5))
def rX9_feed : List ab_R := [(0, .aload_n 0, 1, 0, 0, 0, [], none),
  (1, .iconst 0, 1, 0, 0, 0, [], none),
  (2, .putfield 100, 3, 9, 0, 0, [], none),
  (5, .aload_n 0, 1, 0, 0, 0, [], none),
  (6, .getfield 226, 3, 9, 17, 0, [], none),
  (9, .bipush 20, 2, 0, 0, 0, [], none),
  (11, .iadd, 1, 0, 0, 0, [], none),
  (12, .sipush 700, 3, 0, 0, 0, [], none),
  (15, .if_icmp .le 5, 3, 0, 0, 0, [20], none),
  (18, .iconst (-1), 1, 0, 0, 0, [], none),
  (19, .ireturn, 1, 0, 0, 0, [], none),
  (20, .iconst 0, 1, 0, 0, 0, [], none),
  (21, .istore 6, 2, 0, 0, 0, [], none),
  (23, .iload 6, 2, 0, 0, 0, [], none),
  (25, .bipush 20, 2, 0, 0, 0, [], none),
  (27, .if_icmp .ge 90, 3, 0, 0, 0, [117], none),
  (30, .iload 6, 2, 0, 0, 0, [], none),
  (32, .iconst 4, 1, 0, 0, 0, [], none),
  (33, .if_icmp .ge 7, 3, 0, 0, 0, [40], none),
  (36, .iload_n 1, 1, 0, 0, 0, [], none),
  (37, .goto 39, 3, 0, 0, 0, [76], none),
  (40, .iload 6, 2, 0, 0, 0, [], none),
  (42, .bipush 8, 2, 0, 0, 0, [], none),
  (44, .if_icmp .ge 7, 3, 0, 0, 0, [51], none),
  (47, .iload_n 2, 1, 0, 0, 0, [], none),
  (48, .goto 28, 3, 0, 0, 0, [76], none),
  (51, .iload 6, 2, 0, 0, 0, [], none),
  (53, .bipush 12, 2, 0, 0, 0, [], none),
  (55, .if_icmp .ge 7, 3, 0, 0, 0, [62], none),
  (58, .iload_n 3, 1, 0, 0, 0, [], none),
  (59, .goto 17, 3, 0, 0, 0, [76], none),
  (62, .iload 6, 2, 0, 0, 0, [], none),
  (64, .bipush 16, 2, 0, 0, 0, [], none),
  (66, .if_icmp .ge 8, 3, 0, 0, 0, [74], none),
  (69, .iload 4, 2, 0, 0, 0, [], none),
  (71, .goto 5, 3, 0, 0, 0, [76], none),
  (74, .iload 5, 2, 0, 0, 0, [], none),
  (76, .istore 7, 2, 0, 0, 0, [], none),
  (78, .aload_n 0, 1, 0, 0, 0, [], none),
  (79, .getfield 23, 3, 9, 16, 0, [], none),
  (82, .aload_n 0, 1, 0, 0, 0, [], none),
  (83, .getfield 226, 3, 9, 17, 0, [], none),
  (86, .iload 7, 2, 0, 0, 0, [], none),
  (88, .bipush 24, 2, 0, 0, 0, [], none),
  (90, .bipush 8, 2, 0, 0, 0, [], none),
  (92, .iload 6, 2, 0, 0, 0, [], none),
  (94, .iconst 4, 1, 0, 0, 0, [], none),
  (95, .irem, 1, 0, 0, 0, [], none),
  (96, .imul, 1, 0, 0, 0, [], none),
  (97, .isub, 1, 0, 0, 0, [], none),
  (98, .ishr, 1, 0, 0, 0, [], none),
  (99, .i2b, 1, 0, 0, 0, [], none),
  (100, .bastore, 1, 0, 0, 0, [], none),
  (101, .aload_n 0, 1, 0, 0, 0, [], none),
  (102, .dup, 1, 0, 0, 0, [], none),
  (103, .getfield 226, 3, 9, 17, 0, [], none),
  (106, .iconst 1, 1, 0, 0, 0, [], none),
  (107, .iadd, 1, 0, 0, 0, [], none),
  (108, .putfield 226, 3, 9, 17, 0, [], none),
  (111, .iinc 6 1, 3, 0, 0, 0, [], none),
  (114, .goto (-91), 3, 0, 0, 0, [23], none),
  (117, .aload_n 0, 1, 0, 0, 0, [], none),
  (118, .getfield 226, 3, 9, 17, 0, [], none),
  (121, .ireturn, 1, 0, 0, 0, [], none)]
set_option maxRecDepth 100000 in
theorem kX9_feed : ab_def_ok mX9_feed rX9_feed := ⟨ab_mok_of 1366 110 1364 1365 (by decide +kernel), [0, 0, 1202, 0, 1219, 0, 0, 0, 0, 0, 0, 0, 0, 0, 0, 0, 0, 0, 0, 0, 0, 0, 0, 0, 0, 0, 0, 0, 0, 0, 0, 0, 0, 0, 0, 0, 0, 0, 0, 1218, 0, 1219, 0, 0, 0, 0, 0, 0, 0, 0, 0, 0, 0, 0, 0, 1219, 0, 0, 1219, 0, 0, 0, 1219, 0], by decide +kernel⟩
set_option maxRecDepth 100000 in
theorem vX9_feed_0 {x : ab_Cx} {d mc ms : Nat} {Post : Option ab_V → List ab_Ob → Prop} (hx : ab_At x mX9_feed d mc ms Post) (a1 a2 a3 a4 a5 : Int) (w0 : ab_Ob) (kc ks : Nat)
    (h : ((-2147483648 ≤ (w0.1 17) + 20 ∧ (w0.1 17) + 20 ≤ 2147483647) ∧ ((((w0.1 17) + 20) ≤ 700 → ab_J x 23 [some (ab_O 0), some (ab_I a1), some (ab_I a2), some (ab_I a3), some (ab_I a4), some (ab_I a5), some (ab_I 0), none] [] [(ab_pf w0 0 0)] kc ks) ∧ (¬ ((w0.1 17) + 20) ≤ 700 → Post (some (ab_I (-1))) [(ab_pf w0 0 0)])))) :
    ab_J x 0 [some (ab_O 0), some (ab_I a1), some (ab_I a2), some (ab_I a3), some (ab_I a4), some (ab_I a5), none, none] [] [w0] kc ks := ab_go hx kX9_feed.2 16 [(23, [true, true, true, true, true, true, true, false])] 0 h
set_option maxRecDepth 100000 in
theorem vX9_feed_23 {x : ab_Cx} {d mc ms : Nat} {Post : Option ab_V → List ab_Ob → Prop} (hx : ab_At x mX9_feed d mc ms Post) (l1 l2 l3 l4 l5 l6 : Int) (w0 : ab_Ob) (kc ks : Nat)
    (h : ((20 ≤ l6 → Post (some (ab_I (w0.1 17))) [w0]) ∧ (¬ 20 ≤ l6 → ((4 ≤ l6 → ((8 ≤ l6 → ((12 ≤ l6 → ((16 ≤ l6 → ((¬ (4 : Int) = 0) ∧ ((-2147483648 ≤ (Int.tmod l6 4) ∧ (Int.tmod l6 4) ≤ 2147483647) ∧ ((-2147483648 ≤ 8 * (Int.tmod l6 4) ∧ 8 * (Int.tmod l6 4) ≤ 2147483647) ∧ ((-2147483648 ≤ 24 - (8 * (Int.tmod l6 4)) ∧ 24 - (8 * (Int.tmod l6 4)) ≤ 2147483647) ∧ ((0 ≤ (w0.1 17) ∧ (w0.1 17) < (w0.2 16).1) ∧ ((-2147483648 ≤ (w0.1 17) + 1 ∧ (w0.1 17) + 1 ≤ 2147483647) ∧ ((-2147483648 ≤ l6 + 1 ∧ l6 + 1 ≤ 2147483647) ∧ ab_J x 23 [some (ab_O 0), some (ab_I l1), some (ab_I l2), some (ab_I l3), some (ab_I l4), some (ab_I l5), some (ab_I (l6 + 1)), none] [] [(ab_pf (ab_pa w0 16 (w0.1 17) (ab_i8 (ab_i8 ((Int32.ofInt l5 >>> (Int32.ofInt (24 - (8 * (Int.tmod l6 4))) &&& 31)).toInt)))) 17 ((w0.1 17) + 1))] kc ks)))))))) ∧ (¬ 16 ≤ l6 → ((¬ (4 : Int) = 0) ∧ ((-2147483648 ≤ (Int.tmod l6 4) ∧ (Int.tmod l6 4) ≤ 2147483647) ∧ ((-2147483648 ≤ 8 * (Int.tmod l6 4) ∧ 8 * (Int.tmod l6 4) ≤ 2147483647) ∧ ((-2147483648 ≤ 24 - (8 * (Int.tmod l6 4)) ∧ 24 - (8 * (Int.tmod l6 4)) ≤ 2147483647) ∧ ((0 ≤ (w0.1 17) ∧ (w0.1 17) < (w0.2 16).1) ∧ ((-2147483648 ≤ (w0.1 17) + 1 ∧ (w0.1 17) + 1 ≤ 2147483647) ∧ ((-2147483648 ≤ l6 + 1 ∧ l6 + 1 ≤ 2147483647) ∧ ab_J x 23 [some (ab_O 0), some (ab_I l1), some (ab_I l2), some (ab_I l3), some (ab_I l4), some (ab_I l5), some (ab_I (l6 + 1)), none] [] [(ab_pf (ab_pa w0 16 (w0.1 17) (ab_i8 (ab_i8 ((Int32.ofInt l4 >>> (Int32.ofInt (24 - (8 * (Int.tmod l6 4))) &&& 31)).toInt)))) 17 ((w0.1 17) + 1))] kc ks)))))))))) ∧ (¬ 12 ≤ l6 → ((¬ (4 : Int) = 0) ∧ ((-2147483648 ≤ (Int.tmod l6 4) ∧ (Int.tmod l6 4) ≤ 2147483647) ∧ ((-2147483648 ≤ 8 * (Int.tmod l6 4) ∧ 8 * (Int.tmod l6 4) ≤ 2147483647) ∧ ((-2147483648 ≤ 24 - (8 * (Int.tmod l6 4)) ∧ 24 - (8 * (Int.tmod l6 4)) ≤ 2147483647) ∧ ((0 ≤ (w0.1 17) ∧ (w0.1 17) < (w0.2 16).1) ∧ ((-2147483648 ≤ (w0.1 17) + 1 ∧ (w0.1 17) + 1 ≤ 2147483647) ∧ ((-2147483648 ≤ l6 + 1 ∧ l6 + 1 ≤ 2147483647) ∧ ab_J x 23 [some (ab_O 0), some (ab_I l1), some (ab_I l2), some (ab_I l3), some (ab_I l4), some (ab_I l5), some (ab_I (l6 + 1)), none] [] [(ab_pf (ab_pa w0 16 (w0.1 17) (ab_i8 (ab_i8 ((Int32.ofInt l3 >>> (Int32.ofInt (24 - (8 * (Int.tmod l6 4))) &&& 31)).toInt)))) 17 ((w0.1 17) + 1))] kc ks)))))))))) ∧ (¬ 8 ≤ l6 → ((¬ (4 : Int) = 0) ∧ ((-2147483648 ≤ (Int.tmod l6 4) ∧ (Int.tmod l6 4) ≤ 2147483647) ∧ ((-2147483648 ≤ 8 * (Int.tmod l6 4) ∧ 8 * (Int.tmod l6 4) ≤ 2147483647) ∧ ((-2147483648 ≤ 24 - (8 * (Int.tmod l6 4)) ∧ 24 - (8 * (Int.tmod l6 4)) ≤ 2147483647) ∧ ((0 ≤ (w0.1 17) ∧ (w0.1 17) < (w0.2 16).1) ∧ ((-2147483648 ≤ (w0.1 17) + 1 ∧ (w0.1 17) + 1 ≤ 2147483647) ∧ ((-2147483648 ≤ l6 + 1 ∧ l6 + 1 ≤ 2147483647) ∧ ab_J x 23 [some (ab_O 0), some (ab_I l1), some (ab_I l2), some (ab_I l3), some (ab_I l4), some (ab_I l5), some (ab_I (l6 + 1)), none] [] [(ab_pf (ab_pa w0 16 (w0.1 17) (ab_i8 (ab_i8 ((Int32.ofInt l2 >>> (Int32.ofInt (24 - (8 * (Int.tmod l6 4))) &&& 31)).toInt)))) 17 ((w0.1 17) + 1))] kc ks)))))))))) ∧ (¬ 4 ≤ l6 → ((¬ (4 : Int) = 0) ∧ ((-2147483648 ≤ (Int.tmod l6 4) ∧ (Int.tmod l6 4) ≤ 2147483647) ∧ ((-2147483648 ≤ 8 * (Int.tmod l6 4) ∧ 8 * (Int.tmod l6 4) ≤ 2147483647) ∧ ((-2147483648 ≤ 24 - (8 * (Int.tmod l6 4)) ∧ 24 - (8 * (Int.tmod l6 4)) ≤ 2147483647) ∧ ((0 ≤ (w0.1 17) ∧ (w0.1 17) < (w0.2 16).1) ∧ ((-2147483648 ≤ (w0.1 17) + 1 ∧ (w0.1 17) + 1 ≤ 2147483647) ∧ ((-2147483648 ≤ l6 + 1 ∧ l6 + 1 ≤ 2147483647) ∧ ab_J x 23 [some (ab_O 0), some (ab_I l1), some (ab_I l2), some (ab_I l3), some (ab_I l4), some (ab_I l5), some (ab_I (l6 + 1)), none] [] [(ab_pf (ab_pa w0 16 (w0.1 17) (ab_i8 (ab_i8 ((Int32.ofInt l1 >>> (Int32.ofInt (24 - (8 * (Int.tmod l6 4))) &&& 31)).toInt)))) 17 ((w0.1 17) + 1))] kc ks)))))))))))) :
    ab_J x 23 [some (ab_O 0), some (ab_I l1), some (ab_I l2), some (ab_I l3), some (ab_I l4), some (ab_I l5), some (ab_I l6), none] [] [w0] kc ks := ab_go hx kX9_feed.2 46 [(23, [true, true, true, true, true, true, true, false])] 23 h
def mX9_lasts : ab_M := ((yX9_lasts, cX9_lasts, 2, (some .int)), ([9], [(0, 0)], [false], false, false, 0), (false, 9, 1))
def rX9_lasts : List ab_R := [(0, .aload_n 0, 1, 0, 0, 0, [], none),
  (1, .getfield 13, 3, 9, 3, 0, [], none),
  (4, .bipush 24, 2, 0, 0, 0, [], none),
  (6, .iload_n 1, 1, 0, 0, 0, [], none),
  (7, .iadd, 1, 0, 0, 0, [], none),
  (8, .iaload, 1, 0, 0, 0, [], none),
  (9, .ireturn, 1, 0, 0, 0, [], none)]
set_option maxRecDepth 100000 in
theorem kX9_lasts : ab_def_ok mX9_lasts rX9_lasts := ⟨ab_mok_of 1467 110 1466 65 (by decide +kernel), [0, 1205, 0, 0, 0, 0, 0], by decide +kernel⟩
set_option maxRecDepth 100000 in
theorem vX9_lasts_0 {x : ab_Cx} {d mc ms : Nat} {Post : Option ab_V → List ab_Ob → Prop} (hx : ab_At x mX9_lasts d mc ms Post) (a1 : Int) (w0 : ab_Ob) (kc ks : Nat)
    (h : ((-2147483648 ≤ 24 + a1 ∧ 24 + a1 ≤ 2147483647) ∧ ((0 ≤ (24 + a1) ∧ (24 + a1) < (w0.2 3).1) ∧ Post (some (ab_I ((w0.2 3).2 (24 + a1)))) [w0]))) :
    ab_J x 0 [some (ab_O 0), some (ab_I a1)] [] [w0] kc ks := ab_go hx kX9_lasts.2 11 [] 0 h
def mX9_beginOf : ab_M := ((yX9_beginOf, cX9_beginOf, 4, (some .int)), ([9], [(0, 0)], [false], false, false, 0), (false, 9, 1))
def rX9_beginOf : List ab_R := [(0, .iconst 0, 1, 0, 0, 0, [], none),
  (1, .istore_n 2, 1, 0, 0, 0, [], none),
  (2, .iconst 0, 1, 0, 0, 0, [], none),
  (3, .istore_n 3, 1, 0, 0, 0, [], none),
  (4, .iload_n 3, 1, 0, 0, 0, [], none),
  (5, .iload_n 1, 1, 0, 0, 0, [], none),
  (6, .if_icmp .ge 17, 3, 0, 0, 0, [23], none),
  (9, .iload_n 2, 1, 0, 0, 0, [], none),
  (10, .aload_n 0, 1, 0, 0, 0, [], none),
  (11, .iload_n 3, 1, 0, 0, 0, [], none),
  (12, .invokevirtual 258, 3, 0, 0, 0, [], some mX9_lasts),
  (15, .iadd, 1, 0, 0, 0, [], none),
  (16, .istore_n 2, 1, 0, 0, 0, [], none),
  (17, .iinc 3 1, 3, 0, 0, 0, [], none),
  (20, .goto (-16), 3, 0, 0, 0, [4], none),
  (23, .iload_n 2, 1, 0, 0, 0, [], none),
  (24, .ireturn, 1, 0, 0, 0, [], none)]
set_option maxRecDepth 100000 in
theorem kX9_beginOf : ab_def_ok mX9_beginOf rX9_beginOf := ⟨ab_mok_of 1463 110 1462 64 (by decide +kernel), [0, 0, 0, 0, 0, 0, 0, 0, 0, 0, 1464, 0, 0, 0, 0, 0, 0], by decide +kernel⟩
set_option maxRecDepth 100000 in
theorem vX9_beginOf_0 {x : ab_Cx} {d mc ms : Nat} {Post : Option ab_V → List ab_Ob → Prop} (hx : ab_At x mX9_beginOf d mc ms Post) (a1 : Int) (w0 : ab_Ob) (kc ks : Nat)
    (h : ab_J x 4 [some (ab_O 0), some (ab_I a1), some (ab_I 0), some (ab_I 0)] [] [w0] kc ks) :
    ab_J x 0 [some (ab_O 0), some (ab_I a1), none, none] [] [w0] kc ks := ab_go hx kX9_beginOf.2 9 [(4, [true, true, true, true])] 0 h
set_option maxRecDepth 100000 in
theorem vX9_beginOf_4 {x : ab_Cx} {d mc ms : Nat} {Post : Option ab_V → List ab_Ob → Prop} (hx : ab_At x mX9_beginOf d mc ms Post) (l1 l2 l3 : Int) (w0 : ab_Ob) (kc ks : Nat)
    (h : ((l1 ≤ l3 → Post (some (ab_I l2)) [w0]) ∧ (¬ l1 ≤ l3 → (∃ r1 : Int, ab_Calls d 0 0 mX9_lasts [ab_O 0, ab_I l3] [w0] (some (ab_I r1)) [w0] ∧ ((-2147483648 ≤ l2 + r1 ∧ l2 + r1 ≤ 2147483647) ∧ ((-2147483648 ≤ l3 + 1 ∧ l3 + 1 ≤ 2147483647) ∧ ab_J x 4 [some (ab_O 0), some (ab_I l1), some (ab_I (l2 + r1)), some (ab_I (l3 + 1))] [] [w0] kc ks)))))) :
    ab_J x 4 [some (ab_O 0), some (ab_I l1), some (ab_I l2), some (ab_I l3)] [] [w0] kc ks := ab_go hx kX9_beginOf.2 16 [(4, [true, true, true, true])] 4 h
def mX9_strength : ab_M := ((yX9_strength, cX9_strength, 3, (some .int)), ([9], [(0, 0)], [false], false, false, 0), (false, 9, 1))
def rX9_strength : List ab_R := [(0, .aload_n 0, 1, 0, 0, 0, [], none),
  (1, .iload_n 1, 1, 0, 0, 0, [], none),
  (2, .invokevirtual 261, 3, 0, 0, 0, [], some mX9_beginOf),
  (5, .istore_n 2, 1, 0, 0, 0, [], none),
  (6, .iload_n 2, 1, 0, 0, 0, [], none),
  (7, .aload_n 0, 1, 0, 0, 0, [], none),
  (8, .getfield 242, 3, 9, 6, 0, [], none),
  (11, .irem, 1, 0, 0, 0, [], none),
  (12, .ifCond .ne 7, 3, 0, 0, 0, [19], none),
  (15, .iconst 3, 1, 0, 0, 0, [], none),
  (16, .goto 32, 3, 0, 0, 0, [48], none),
  (19, .iconst 2, 1, 0, 0, 0, [], none),
  (20, .iload_n 2, 1, 0, 0, 0, [], none),
  (21, .imul, 1, 0, 0, 0, [], none),
  (22, .aload_n 0, 1, 0, 0, 0, [], none),
  (23, .getfield 242, 3, 9, 6, 0, [], none),
  (26, .irem, 1, 0, 0, 0, [], none),
  (27, .ifCond .ne 7, 3, 0, 0, 0, [34], none),
  (30, .iconst 2, 1, 0, 0, 0, [], none),
  (31, .goto 17, 3, 0, 0, 0, [48], none),
  (34, .iload_n 2, 1, 0, 0, 0, [], none),
  (35, .aload_n 0, 1, 0, 0, 0, [], none),
  (36, .getfield 244, 3, 9, 7, 0, [], none),
  (39, .irem, 1, 0, 0, 0, [], none),
  (40, .ifCond .ne 7, 3, 0, 0, 0, [47], none),
  (43, .iconst 1, 1, 0, 0, 0, [], none),
  (44, .goto 4, 3, 0, 0, 0, [48], none),
  (47, .iconst 0, 1, 0, 0, 0, [], none),
  (48, .ireturn, 1, 0, 0, 0, [], none)]
set_option maxRecDepth 100000 in
theorem kX9_strength : ab_def_ok mX9_strength rX9_strength := ⟨ab_mok_of 1459 110 1458 63 (by decide +kernel), [0, 0, 1460, 0, 0, 0, 1208, 0, 0, 0, 0, 0, 0, 0, 0, 1208, 0, 0, 0, 0, 0, 0, 1209, 0, 0, 0, 0, 0, 0], by decide +kernel⟩
set_option maxRecDepth 100000 in
theorem vX9_strength_0 {x : ab_Cx} {d mc ms : Nat} {Post : Option ab_V → List ab_Ob → Prop} (hx : ab_At x mX9_strength d mc ms Post) (a1 : Int) (w0 : ab_Ob) (kc ks : Nat)
    (h : (∃ r1 : Int, ab_Calls d 0 0 mX9_beginOf [ab_O 0, ab_I a1] [w0] (some (ab_I r1)) [w0] ∧ ((¬ w0.1 6 = 0) ∧ ((-2147483648 ≤ (Int.tmod r1 (w0.1 6)) ∧ (Int.tmod r1 (w0.1 6)) ≤ 2147483647) ∧ ((¬ (Int.tmod r1 (w0.1 6)) = 0 → ((-2147483648 ≤ 2 * r1 ∧ 2 * r1 ≤ 2147483647) ∧ ((¬ w0.1 6 = 0) ∧ ((-2147483648 ≤ (Int.tmod (2 * r1) (w0.1 6)) ∧ (Int.tmod (2 * r1) (w0.1 6)) ≤ 2147483647) ∧ ((¬ (Int.tmod (2 * r1) (w0.1 6)) = 0 → ((¬ w0.1 7 = 0) ∧ ((-2147483648 ≤ (Int.tmod r1 (w0.1 7)) ∧ (Int.tmod r1 (w0.1 7)) ≤ 2147483647) ∧ ((¬ (Int.tmod r1 (w0.1 7)) = 0 → Post (some (ab_I 0)) [w0]) ∧ ((Int.tmod r1 (w0.1 7)) = 0 → Post (some (ab_I 1)) [w0]))))) ∧ ((Int.tmod (2 * r1) (w0.1 6)) = 0 → Post (some (ab_I 2)) [w0])))))) ∧ ((Int.tmod r1 (w0.1 6)) = 0 → Post (some (ab_I 3)) [w0])))))) :
    ab_J x 0 [some (ab_O 0), some (ab_I a1), none] [] [w0] kc ks := ab_go hx kX9_strength.2 28 [] 0 h
def mX9_pitchOf : ab_M := ((yX9_pitchOf, cX9_pitchOf, 2, (some .int)), ([9], [(0, 0)], [false], false, false, 0), (false, 9, 1))
def rX9_pitchOf : List ab_R := [(0, .aload_n 0, 1, 0, 0, 0, [], none),
  (1, .getfield 13, 3, 9, 3, 0, [], none),
  (4, .iconst 0, 1, 0, 0, 0, [], none),
  (5, .iload_n 1, 1, 0, 0, 0, [], none),
  (6, .iadd, 1, 0, 0, 0, [], none),
  (7, .iaload, 1, 0, 0, 0, [], none),
  (8, .ireturn, 1, 0, 0, 0, [], none)]
set_option maxRecDepth 100000 in
theorem kX9_pitchOf : ab_def_ok mX9_pitchOf rX9_pitchOf := ⟨ab_mok_of 1475 110 1474 67 (by decide +kernel), [0, 1205, 0, 0, 0, 0, 0], by decide +kernel⟩
set_option maxRecDepth 100000 in
theorem vX9_pitchOf_0 {x : ab_Cx} {d mc ms : Nat} {Post : Option ab_V → List ab_Ob → Prop} (hx : ab_At x mX9_pitchOf d mc ms Post) (a1 : Int) (w0 : ab_Ob) (kc ks : Nat)
    (h : ((-2147483648 ≤ 0 + a1 ∧ 0 + a1 ≤ 2147483647) ∧ ((0 ≤ (0 + a1) ∧ (0 + a1) < (w0.2 3).1) ∧ Post (some (ab_I ((w0.2 3).2 (0 + a1)))) [w0]))) :
    ab_J x 0 [some (ab_O 0), some (ab_I a1)] [] [w0] kc ks := ab_go hx kX9_pitchOf.2 11 [] 0 h
def mX9_stable : ab_M := ((yX9_stable, cX9_stable, 3, (some .int)), ([9], [(0, 0)], [false], false, false, 0), (false, 9, 1))
def rX9_stable : List ab_R := [(0, .aload_n 0, 1, 0, 0, 0, [], none),
  (1, .iload_n 1, 1, 0, 0, 0, [], none),
  (2, .invokevirtual 264, 3, 0, 0, 0, [], some mX9_pitchOf),
  (5, .aload_n 0, 1, 0, 0, 0, [], none),
  (6, .getfield 13, 3, 9, 3, 0, [], none),
  (9, .bipush 54, 2, 0, 0, 0, [], none),
  (11, .iaload, 1, 0, 0, 0, [], none),
  (12, .isub, 1, 0, 0, 0, [], none),
  (13, .bipush 12, 2, 0, 0, 0, [], none),
  (15, .iadd, 1, 0, 0, 0, [], none),
  (16, .bipush 12, 2, 0, 0, 0, [], none),
  (18, .irem, 1, 0, 0, 0, [], none),
  (19, .istore_n 2, 1, 0, 0, 0, [], none),
  (20, .iload_n 2, 1, 0, 0, 0, [], none),
  (21, .ifCond .ne 7, 3, 0, 0, 0, [28], none),
  (24, .iconst 2, 1, 0, 0, 0, [], none),
  (25, .goto 19, 3, 0, 0, 0, [44], none),
  (28, .iload_n 2, 1, 0, 0, 0, [], none),
  (29, .iconst 4, 1, 0, 0, 0, [], none),
  (30, .if_icmp .eq 9, 3, 0, 0, 0, [39], none),
  (33, .iload_n 2, 1, 0, 0, 0, [], none),
  (34, .bipush 7, 2, 0, 0, 0, [], none),
  (36, .if_icmp .ne 7, 3, 0, 0, 0, [43], none),
  (39, .iconst 1, 1, 0, 0, 0, [], none),
  (40, .goto 4, 3, 0, 0, 0, [44], none),
  (43, .iconst 0, 1, 0, 0, 0, [], none),
  (44, .ireturn, 1, 0, 0, 0, [], none)]
set_option maxRecDepth 100000 in
theorem kX9_stable : ab_def_ok mX9_stable rX9_stable := ⟨ab_mok_of 1471 110 1470 66 (by decide +kernel), [0, 0, 1472, 0, 1205, 0, 0, 0, 0, 0, 0, 0, 0, 0, 0, 0, 0, 0, 0, 0, 0, 0, 0, 0, 0, 0, 0], by decide +kernel⟩
set_option maxRecDepth 100000 in
theorem vX9_stable_0 {x : ab_Cx} {d mc ms : Nat} {Post : Option ab_V → List ab_Ob → Prop} (hx : ab_At x mX9_stable d mc ms Post) (a1 : Int) (w0 : ab_Ob) (kc ks : Nat)
    (h : (∃ r1 : Int, ab_Calls d 0 0 mX9_pitchOf [ab_O 0, ab_I a1] [w0] (some (ab_I r1)) [w0] ∧ ((0 ≤ (54 : Int) ∧ (54 : Int) < (w0.2 3).1) ∧ ((-2147483648 ≤ r1 - ((w0.2 3).2 54) ∧ r1 - ((w0.2 3).2 54) ≤ 2147483647) ∧ ((-2147483648 ≤ (r1 - ((w0.2 3).2 54)) + 12 ∧ (r1 - ((w0.2 3).2 54)) + 12 ≤ 2147483647) ∧ ((¬ (12 : Int) = 0) ∧ ((-2147483648 ≤ (Int.tmod ((r1 - ((w0.2 3).2 54)) + 12) 12) ∧ (Int.tmod ((r1 - ((w0.2 3).2 54)) + 12) 12) ≤ 2147483647) ∧ ((¬ (Int.tmod ((r1 - ((w0.2 3).2 54)) + 12) 12) = 0 → (((Int.tmod ((r1 - ((w0.2 3).2 54)) + 12) 12) = 4 → Post (some (ab_I 1)) [w0]) ∧ (¬ (Int.tmod ((r1 - ((w0.2 3).2 54)) + 12) 12) = 4 → ((¬ (Int.tmod ((r1 - ((w0.2 3).2 54)) + 12) 12) = 7 → Post (some (ab_I 0)) [w0]) ∧ ((Int.tmod ((r1 - ((w0.2 3).2 54)) + 12) 12) = 7 → Post (some (ab_I 1)) [w0]))))) ∧ ((Int.tmod ((r1 - ((w0.2 3).2 54)) + 12) 12) = 0 → Post (some (ab_I 2)) [w0]))))))))) :
    ab_J x 0 [some (ab_O 0), some (ab_I a1), none] [] [w0] kc ks := ab_go hx kX9_stable.2 28 [] 0 h
def mX9_cube : ab_M := ((yX9_cube, cX9_cube, 3, (some .int)), ([], [], [], false, false, 0), (true, 9, 3))
def rX9_cube : List ab_R := [(0, .iload_n 0, 1, 0, 0, 0, [], none),
  (1, .bipush 24, 2, 0, 0, 0, [], none),
  (3, .imul, 1, 0, 0, 0, [], none),
  (4, .iload_n 1, 1, 0, 0, 0, [], none),
  (5, .iadd, 1, 0, 0, 0, [], none),
  (6, .bipush 24, 2, 0, 0, 0, [], none),
  (8, .imul, 1, 0, 0, 0, [], none),
  (9, .iload_n 2, 1, 0, 0, 0, [], none),
  (10, .iadd, 1, 0, 0, 0, [], none),
  (11, .ireturn, 1, 0, 0, 0, [], none)]
set_option maxRecDepth 100000 in
theorem kX9_cube : ab_def_ok mX9_cube rX9_cube := ⟨ab_mok_of 1482 110 1481 0 (by decide +kernel), [0, 0, 0, 0, 0, 0, 0, 0, 0, 0], by decide +kernel⟩
set_option maxRecDepth 100000 in
theorem vX9_cube_0 {x : ab_Cx} {d mc ms : Nat} {Post : Option ab_V → List ab_Ob → Prop} (hx : ab_At x mX9_cube d mc ms Post) (a0 a1 a2 : Int) (kc ks : Nat)
    (h : ((-2147483648 ≤ a0 * 24 ∧ a0 * 24 ≤ 2147483647) ∧ ((-2147483648 ≤ (a0 * 24) + a1 ∧ (a0 * 24) + a1 ≤ 2147483647) ∧ ((-2147483648 ≤ ((a0 * 24) + a1) * 24 ∧ ((a0 * 24) + a1) * 24 ≤ 2147483647) ∧ ((-2147483648 ≤ (((a0 * 24) + a1) * 24) + a2 ∧ (((a0 * 24) + a1) * 24) + a2 ≤ 2147483647) ∧ Post (some (ab_I ((((a0 * 24) + a1) * 24) + a2))) []))))) :
    ab_J x 0 [some (ab_I a0), some (ab_I a1), some (ab_I a2)] [] [] kc ks := ab_go hx kX9_cube.2 14 [] 0 h
def mX9_above : ab_M := ((yX9_above, cX9_above, 2, (some .int)), ([], [], [], false, false, 0), (true, 9, 2))
def rX9_above : List ab_R := [(0, .iload_n 0, 1, 0, 0, 0, [], none),
  (1, .iload_n 1, 1, 0, 0, 0, [], none),
  (2, .if_icmp .le 9, 3, 0, 0, 0, [11], none),
  (5, .iload_n 0, 1, 0, 0, 0, [], none),
  (6, .iload_n 1, 1, 0, 0, 0, [], none),
  (7, .isub, 1, 0, 0, 0, [], none),
  (8, .goto 4, 3, 0, 0, 0, [12], none),
  (11, .iconst 0, 1, 0, 0, 0, [], none),
  (12, .ireturn, 1, 0, 0, 0, [], none)]
set_option maxRecDepth 100000 in
theorem kX9_above : ab_def_ok mX9_above rX9_above := ⟨ab_mok_of 1502 110 1501 0 (by decide +kernel), [0, 0, 0, 0, 0, 0, 0, 0, 0], by decide +kernel⟩
set_option maxRecDepth 100000 in
theorem vX9_above_0 {x : ab_Cx} {d mc ms : Nat} {Post : Option ab_V → List ab_Ob → Prop} (hx : ab_At x mX9_above d mc ms Post) (a0 a1 : Int) (kc ks : Nat)
    (h : ((a0 ≤ a1 → Post (some (ab_I 0)) []) ∧ (¬ a0 ≤ a1 → ((-2147483648 ≤ a0 - a1 ∧ a0 - a1 ≤ 2147483647) ∧ Post (some (ab_I (a0 - a1))) [])))) :
    ab_J x 0 [some (ab_I a0), some (ab_I a1)] [] [] kc ks := ab_go hx kX9_above.2 12 [] 0 h
def mX9_apart : ab_M := ((yX9_apart, cX9_apart, 2, (some .int)), ([], [], [], false, false, 0), (true, 9, 2))
def rX9_apart : List ab_R := [(0, .iload_n 0, 1, 0, 0, 0, [], none),
  (1, .iload_n 1, 1, 0, 0, 0, [], none),
  (2, .if_icmp .le 9, 3, 0, 0, 0, [11], none),
  (5, .iload_n 0, 1, 0, 0, 0, [], none),
  (6, .iload_n 1, 1, 0, 0, 0, [], none),
  (7, .isub, 1, 0, 0, 0, [], none),
  (8, .goto 6, 3, 0, 0, 0, [14], none),
  (11, .iload_n 1, 1, 0, 0, 0, [], none),
  (12, .iload_n 0, 1, 0, 0, 0, [], none),
  (13, .isub, 1, 0, 0, 0, [], none),
  (14, .ireturn, 1, 0, 0, 0, [], none)]
set_option maxRecDepth 100000 in
theorem kX9_apart : ab_def_ok mX9_apart rX9_apart := ⟨ab_mok_of 1505 110 1504 0 (by decide +kernel), [0, 0, 0, 0, 0, 0, 0, 0, 0, 0, 0], by decide +kernel⟩
set_option maxRecDepth 100000 in
theorem vX9_apart_0 {x : ab_Cx} {d mc ms : Nat} {Post : Option ab_V → List ab_Ob → Prop} (hx : ab_At x mX9_apart d mc ms Post) (a0 a1 : Int) (kc ks : Nat)
    (h : ((a0 ≤ a1 → ((-2147483648 ≤ a1 - a0 ∧ a1 - a0 ≤ 2147483647) ∧ Post (some (ab_I (a1 - a0))) [])) ∧ (¬ a0 ≤ a1 → ((-2147483648 ≤ a0 - a1 ∧ a0 - a1 ≤ 2147483647) ∧ Post (some (ab_I (a0 - a1))) [])))) :
    ab_J x 0 [some (ab_I a0), some (ab_I a1)] [] [] kc ks := ab_go hx kX9_apart.2 12 [] 0 h
def mX9_brokenBy : ab_M := ((yX9_brokenBy, cX9_brokenBy, 7, (some .int)), ([9], [(0, 0)], [false], false, false, 0), (false, 9, 5))
def rX9_brokenBy : List ab_R := [(0, .iload_n 1, 1, 0, 0, 0, [], none),
  (1, .tableswitch 127 0 4 #[35, 55, 73, 93, 115], 35, 0, 0, 0, [128, 36, 56, 74, 94, 116], none),
  (36, .aload_n 0, 1, 0, 0, 0, [], none),
  (37, .getfield 27, 3, 9, 25, 0, [], none),
  (40, .iload_n 3, 1, 0, 0, 0, [], none),
  (41, .iaload, 1, 0, 0, 0, [], none),
  (42, .aload_n 0, 1, 0, 0, 0, [], none),
  (43, .getfield 27, 3, 9, 25, 0, [], none),
  (46, .iload_n 2, 1, 0, 0, 0, [], none),
  (47, .iaload, 1, 0, 0, 0, [], none),
  (48, .invokestatic 267, 3, 0, 0, 0, [], some mX9_above),
  (51, .istore 6, 2, 0, 0, 0, [], none),
  (53, .goto 92, 3, 0, 0, 0, [145], none),
  (56, .aload_n 0, 1, 0, 0, 0, [], none),
  (57, .iload_n 3, 1, 0, 0, 0, [], none),
  (58, .invokevirtual 258, 3, 0, 0, 0, [], some mX9_lasts),
  (61, .aload_n 0, 1, 0, 0, 0, [], none),
  (62, .iload_n 2, 1, 0, 0, 0, [], none),
  (63, .invokevirtual 258, 3, 0, 0, 0, [], some mX9_lasts),
  (66, .invokestatic 267, 3, 0, 0, 0, [], some mX9_above),
  (69, .istore 6, 2, 0, 0, 0, [], none),
  (71, .goto 74, 3, 0, 0, 0, [145], none),
  (74, .aload_n 0, 1, 0, 0, 0, [], none),
  (75, .getfield 30, 3, 9, 26, 0, [], none),
  (78, .iload_n 3, 1, 0, 0, 0, [], none),
  (79, .iaload, 1, 0, 0, 0, [], none),
  (80, .aload_n 0, 1, 0, 0, 0, [], none),
  (81, .getfield 30, 3, 9, 26, 0, [], none),
  (84, .iload_n 2, 1, 0, 0, 0, [], none),
  (85, .iaload, 1, 0, 0, 0, [], none),
  (86, .invokestatic 267, 3, 0, 0, 0, [], some mX9_above),
  (89, .istore 6, 2, 0, 0, 0, [], none),
  (91, .goto 54, 3, 0, 0, 0, [145], none),
  (94, .aload_n 0, 1, 0, 0, 0, [], none),
  (95, .iload_n 2, 1, 0, 0, 0, [], none),
  (96, .invokevirtual 264, 3, 0, 0, 0, [], some mX9_pitchOf),
  (99, .aload_n 0, 1, 0, 0, 0, [], none),
  (100, .iload_n 3, 1, 0, 0, 0, [], none),
  (101, .invokevirtual 264, 3, 0, 0, 0, [], some mX9_pitchOf),
  (104, .invokestatic 270, 3, 0, 0, 0, [], some mX9_apart),
  (107, .iconst 2, 1, 0, 0, 0, [], none),
  (108, .invokestatic 267, 3, 0, 0, 0, [], some mX9_above),
  (111, .istore 6, 2, 0, 0, 0, [], none),
  (113, .goto 32, 3, 0, 0, 0, [145], none),
  (116, .iload 4, 2, 0, 0, 0, [], none),
  (118, .iload 5, 2, 0, 0, 0, [], none),
  (120, .invokestatic 270, 3, 0, 0, 0, [], some mX9_apart),
  (123, .istore 6, 2, 0, 0, 0, [], none),
  (125, .goto 20, 3, 0, 0, 0, [145], none),
  (128, .iload_n 3, 1, 0, 0, 0, [], none),
  (129, .aload_n 0, 1, 0, 0, 0, [], none),
  (130, .getfield 246, 3, 9, 8, 0, [], none),
  (133, .iconst 1, 1, 0, 0, 0, [], none),
  (134, .isub, 1, 0, 0, 0, [], none),
  (135, .if_icmp .ne 7, 3, 0, 0, 0, [142], none),
  (138, .iconst 1, 1, 0, 0, 0, [], none),
  (139, .goto 4, 3, 0, 0, 0, [143], none),
  (142, .iconst 0, 1, 0, 0, 0, [], none),
  (143, .istore 6, 2, 0, 0, 0, [], none),
  (145, .iload 6, 2, 0, 0, 0, [], none),
  (147, .aload_n 0, 1, 0, 0, 0, [], none),
  (148, .getfield 13, 3, 9, 3, 0, [], none),
  (151, .bipush 48, 2, 0, 0, 0, [], none),
  (153, .iload_n 1, 1, 0, 0, 0, [], none),
  (154, .iadd, 1, 0, 0, 0, [], none),
  (155, .iaload, 1, 0, 0, 0, [], none),
  (156, .imul, 1, 0, 0, 0, [], none),
  (157, .ireturn, 1, 0, 0, 0, [], none)]
set_option maxRecDepth 100000 in
theorem kX9_brokenBy : ab_def_ok mX9_brokenBy rX9_brokenBy := ⟨ab_mok_of 1499 110 1498 72 (by decide +kernel), [0, 0, 0, 1227, 0, 0, 0, 1227, 0, 0, 1500, 0, 0, 0, 0, 1464, 0, 0, 1464, 1500, 0, 0, 0, 1228, 0, 0, 0, 1228, 0, 0, 1500, 0, 0, 0, 0, 1472, 0, 0, 1472, 1503, 0, 1500, 0, 0, 0, 0, 1503, 0, 0, 0, 0, 1210, 0, 0, 0, 0, 0, 0, 0, 0, 0, 1205, 0, 0, 0, 0, 0, 0], by decide +kernel⟩
set_option maxRecDepth 100000 in
theorem vX9_brokenBy_0 {x : ab_Cx} {d mc ms : Nat} {Post : Option ab_V → List ab_Ob → Prop} (hx : ab_At x mX9_brokenBy d mc ms Post) (a1 a2 a3 a4 a5 : Int) (w0 : ab_Ob) (kc ks : Nat)
    (h : ((a1 < 0 ∨ 4 < a1 → ((-2147483648 ≤ (w0.1 8) - 1 ∧ (w0.1 8) - 1 ≤ 2147483647) ∧ ((¬ a3 = ((w0.1 8) - 1) → ((-2147483648 ≤ 48 + a1 ∧ 48 + a1 ≤ 2147483647) ∧ ((0 ≤ (48 + a1) ∧ (48 + a1) < (w0.2 3).1) ∧ ((-2147483648 ≤ 0 * ((w0.2 3).2 (48 + a1)) ∧ 0 * ((w0.2 3).2 (48 + a1)) ≤ 2147483647) ∧ Post (some (ab_I (0 * ((w0.2 3).2 (48 + a1))))) [w0])))) ∧ (a3 = ((w0.1 8) - 1) → ((-2147483648 ≤ 48 + a1 ∧ 48 + a1 ≤ 2147483647) ∧ ((0 ≤ (48 + a1) ∧ (48 + a1) < (w0.2 3).1) ∧ ((-2147483648 ≤ 1 * ((w0.2 3).2 (48 + a1)) ∧ 1 * ((w0.2 3).2 (48 + a1)) ≤ 2147483647) ∧ Post (some (ab_I (1 * ((w0.2 3).2 (48 + a1))))) [w0]))))))) ∧ ((a1 = 0 → ((0 ≤ a3 ∧ a3 < (w0.2 25).1) ∧ ((0 ≤ a2 ∧ a2 < (w0.2 25).1) ∧ (∃ r10 : Int, ab_Calls d 0 0 mX9_above [ab_I ((w0.2 25).2 a3), ab_I ((w0.2 25).2 a2)] [] (some (ab_I r10)) [] ∧ ((-2147483648 ≤ 48 + a1 ∧ 48 + a1 ≤ 2147483647) ∧ ((0 ≤ (48 + a1) ∧ (48 + a1) < (w0.2 3).1) ∧ ((-2147483648 ≤ r10 * ((w0.2 3).2 (48 + a1)) ∧ r10 * ((w0.2 3).2 (48 + a1)) ≤ 2147483647) ∧ Post (some (ab_I (r10 * ((w0.2 3).2 (48 + a1))))) [w0]))))))) ∧ ((a1 = 1 → (∃ r7 : Int, ab_Calls d 0 0 mX9_lasts [ab_O 0, ab_I a3] [w0] (some (ab_I r7)) [w0] ∧ (∃ r8 : Int, ab_Calls d 0 0 mX9_lasts [ab_O 0, ab_I a2] [w0] (some (ab_I r8)) [w0] ∧ (∃ r9 : Int, ab_Calls d 0 0 mX9_above [ab_I r7, ab_I r8] [] (some (ab_I r9)) [] ∧ ((-2147483648 ≤ 48 + a1 ∧ 48 + a1 ≤ 2147483647) ∧ ((0 ≤ (48 + a1) ∧ (48 + a1) < (w0.2 3).1) ∧ ((-2147483648 ≤ r9 * ((w0.2 3).2 (48 + a1)) ∧ r9 * ((w0.2 3).2 (48 + a1)) ≤ 2147483647) ∧ Post (some (ab_I (r9 * ((w0.2 3).2 (48 + a1))))) [w0]))))))) ∧ ((a1 = 2 → ((0 ≤ a3 ∧ a3 < (w0.2 26).1) ∧ ((0 ≤ a2 ∧ a2 < (w0.2 26).1) ∧ (∃ r6 : Int, ab_Calls d 0 0 mX9_above [ab_I ((w0.2 26).2 a3), ab_I ((w0.2 26).2 a2)] [] (some (ab_I r6)) [] ∧ ((-2147483648 ≤ 48 + a1 ∧ 48 + a1 ≤ 2147483647) ∧ ((0 ≤ (48 + a1) ∧ (48 + a1) < (w0.2 3).1) ∧ ((-2147483648 ≤ r6 * ((w0.2 3).2 (48 + a1)) ∧ r6 * ((w0.2 3).2 (48 + a1)) ≤ 2147483647) ∧ Post (some (ab_I (r6 * ((w0.2 3).2 (48 + a1))))) [w0]))))))) ∧ ((a1 = 3 → (∃ r2 : Int, ab_Calls d 0 0 mX9_pitchOf [ab_O 0, ab_I a2] [w0] (some (ab_I r2)) [w0] ∧ (∃ r3 : Int, ab_Calls d 0 0 mX9_pitchOf [ab_O 0, ab_I a3] [w0] (some (ab_I r3)) [w0] ∧ (∃ r4 : Int, ab_Calls d 0 0 mX9_apart [ab_I r2, ab_I r3] [] (some (ab_I r4)) [] ∧ (∃ r5 : Int, ab_Calls d 0 0 mX9_above [ab_I r4, ab_I 2] [] (some (ab_I r5)) [] ∧ ((-2147483648 ≤ 48 + a1 ∧ 48 + a1 ≤ 2147483647) ∧ ((0 ≤ (48 + a1) ∧ (48 + a1) < (w0.2 3).1) ∧ ((-2147483648 ≤ r5 * ((w0.2 3).2 (48 + a1)) ∧ r5 * ((w0.2 3).2 (48 + a1)) ≤ 2147483647) ∧ Post (some (ab_I (r5 * ((w0.2 3).2 (48 + a1))))) [w0])))))))) ∧ ((a1 = 4 → (∃ r1 : Int, ab_Calls d 0 0 mX9_apart [ab_I a4, ab_I a5] [] (some (ab_I r1)) [] ∧ ((-2147483648 ≤ 48 + a1 ∧ 48 + a1 ≤ 2147483647) ∧ ((0 ≤ (48 + a1) ∧ (48 + a1) < (w0.2 3).1) ∧ ((-2147483648 ≤ r1 * ((w0.2 3).2 (48 + a1)) ∧ r1 * ((w0.2 3).2 (48 + a1)) ≤ 2147483647) ∧ Post (some (ab_I (r1 * ((w0.2 3).2 (48 + a1))))) [w0]))))) ∧ True))))))) :
    ab_J x 0 [some (ab_O 0), some (ab_I a1), some (ab_I a2), some (ab_I a3), some (ab_I a4), some (ab_I a5), none] [] [w0] kc ks := ab_go hx kX9_brokenBy.2 26 [] 0 h
def mX9_brokenAll : ab_M := ((yX9_brokenAll, cX9_brokenAll, 7, (some .int)), ([9], [(0, 0)], [false], false, false, 0), (false, 9, 4))
def rX9_brokenAll : List ab_R := [(0, .iconst 0, 1, 0, 0, 0, [], none),
  (1, .istore 5, 2, 0, 0, 0, [], none),
  (3, .iconst 0, 1, 0, 0, 0, [], none),
  (4, .istore 6, 2, 0, 0, 0, [], none),
  (6, .iload 6, 2, 0, 0, 0, [], none),
  (8, .bipush 6, 2, 0, 0, 0, [], none),
  (10, .if_icmp .ge 25, 3, 0, 0, 0, [35], none),
  (13, .iload 5, 2, 0, 0, 0, [], none),
  (15, .aload_n 0, 1, 0, 0, 0, [], none),
  (16, .iload 6, 2, 0, 0, 0, [], none),
  (18, .iload_n 1, 1, 0, 0, 0, [], none),
  (19, .iload_n 2, 1, 0, 0, 0, [], none),
  (20, .iload_n 3, 1, 0, 0, 0, [], none),
  (21, .iload 4, 2, 0, 0, 0, [], none),
  (23, .invokevirtual 273, 3, 0, 0, 0, [], some mX9_brokenBy),
  (26, .iadd, 1, 0, 0, 0, [], none),
  (27, .istore 5, 2, 0, 0, 0, [], none),
  (29, .iinc 6 1, 3, 0, 0, 0, [], none),
  (32, .goto (-26), 3, 0, 0, 0, [6], none),
  (35, .iload 5, 2, 0, 0, 0, [], none),
  (37, .ireturn, 1, 0, 0, 0, [], none)]
set_option maxRecDepth 100000 in
theorem kX9_brokenAll : ab_def_ok mX9_brokenAll rX9_brokenAll := ⟨ab_mok_of 1495 110 1494 71 (by decide +kernel), [0, 0, 0, 0, 0, 0, 0, 0, 0, 0, 0, 0, 0, 0, 1496, 0, 0, 0, 0, 0, 0], by decide +kernel⟩
set_option maxRecDepth 100000 in
theorem vX9_brokenAll_0 {x : ab_Cx} {d mc ms : Nat} {Post : Option ab_V → List ab_Ob → Prop} (hx : ab_At x mX9_brokenAll d mc ms Post) (a1 a2 a3 a4 : Int) (w0 : ab_Ob) (kc ks : Nat)
    (h : ab_J x 6 [some (ab_O 0), some (ab_I a1), some (ab_I a2), some (ab_I a3), some (ab_I a4), some (ab_I 0), some (ab_I 0)] [] [w0] kc ks) :
    ab_J x 0 [some (ab_O 0), some (ab_I a1), some (ab_I a2), some (ab_I a3), some (ab_I a4), none, none] [] [w0] kc ks := ab_go hx kX9_brokenAll.2 9 [(6, [true, true, true, true, true, true, true])] 0 h
set_option maxRecDepth 100000 in
theorem vX9_brokenAll_6 {x : ab_Cx} {d mc ms : Nat} {Post : Option ab_V → List ab_Ob → Prop} (hx : ab_At x mX9_brokenAll d mc ms Post) (l1 l2 l3 l4 l5 l6 : Int) (w0 : ab_Ob) (kc ks : Nat)
    (h : ((6 ≤ l6 → Post (some (ab_I l5)) [w0]) ∧ (¬ 6 ≤ l6 → (∃ r1 : Int, ab_Calls d 0 0 mX9_brokenBy [ab_O 0, ab_I l6, ab_I l1, ab_I l2, ab_I l3, ab_I l4] [w0] (some (ab_I r1)) [w0] ∧ ((-2147483648 ≤ l5 + r1 ∧ l5 + r1 ≤ 2147483647) ∧ ((-2147483648 ≤ l6 + 1 ∧ l6 + 1 ≤ 2147483647) ∧ ab_J x 6 [some (ab_O 0), some (ab_I l1), some (ab_I l2), some (ab_I l3), some (ab_I l4), some (ab_I (l5 + r1)), some (ab_I (l6 + 1))] [] [w0] kc ks)))))) :
    ab_J x 6 [some (ab_O 0), some (ab_I l1), some (ab_I l2), some (ab_I l3), some (ab_I l4), some (ab_I l5), some (ab_I l6)] [] [w0] kc ks := ab_go hx kX9_brokenAll.2 20 [(6, [true, true, true, true, true, true, true])] 6 h
def mX9_joinedBy : ab_M := ((yX9_joinedBy, cX9_joinedBy, 8, (some .int)), ([9], [(0, 0)], [false], false, false, 0), (false, 9, 5))
def rX9_joinedBy : List ab_R := [(0, .iload_n 3, 1, 0, 0, 0, [], none),
  (1, .iload 4, 2, 0, 0, 0, [], none),
  (3, .if_icmp .gt 13, 3, 0, 0, 0, [16], none),
  (6, .iload_n 1, 1, 0, 0, 0, [], none),
  (7, .iload 4, 2, 0, 0, 0, [], none),
  (9, .iload_n 3, 1, 0, 0, 0, [], none),
  (10, .invokestatic 289, 3, 0, 0, 0, [], some mX9_cube),
  (13, .goto 12, 3, 0, 0, 0, [25], none),
  (16, .iload 4, 2, 0, 0, 0, [], none),
  (18, .iconst 1, 1, 0, 0, 0, [], none),
  (19, .iadd, 1, 0, 0, 0, [], none),
  (20, .iload_n 2, 1, 0, 0, 0, [], none),
  (21, .iload_n 3, 1, 0, 0, 0, [], none),
  (22, .invokestatic 289, 3, 0, 0, 0, [], some mX9_cube),
  (25, .istore 6, 2, 0, 0, 0, [], none),
  (27, .iload_n 3, 1, 0, 0, 0, [], none),
  (28, .iload 4, 2, 0, 0, 0, [], none),
  (30, .if_icmp .gt 16, 3, 0, 0, 0, [46], none),
  (33, .iload 4, 2, 0, 0, 0, [], none),
  (35, .iconst 1, 1, 0, 0, 0, [], none),
  (36, .iadd, 1, 0, 0, 0, [], none),
  (37, .iload_n 2, 1, 0, 0, 0, [], none),
  (38, .iload 5, 2, 0, 0, 0, [], none),
  (40, .invokestatic 289, 3, 0, 0, 0, [], some mX9_cube),
  (43, .goto 11, 3, 0, 0, 0, [54], none),
  (46, .iload_n 1, 1, 0, 0, 0, [], none),
  (47, .iload 4, 2, 0, 0, 0, [], none),
  (49, .iload 5, 2, 0, 0, 0, [], none),
  (51, .invokestatic 289, 3, 0, 0, 0, [], some mX9_cube),
  (54, .istore 7, 2, 0, 0, 0, [], none),
  (56, .aload_n 0, 1, 0, 0, 0, [], none),
  (57, .getfield 33, 3, 9, 27, 0, [], none),
  (60, .iload 6, 2, 0, 0, 0, [], none),
  (62, .iaload, 1, 0, 0, 0, [], none),
  (63, .aload_n 0, 1, 0, 0, 0, [], none),
  (64, .getfield 33, 3, 9, 27, 0, [], none),
  (67, .iload 7, 2, 0, 0, 0, [], none),
  (69, .iaload, 1, 0, 0, 0, [], none),
  (70, .iadd, 1, 0, 0, 0, [], none),
  (71, .aload_n 0, 1, 0, 0, 0, [], none),
  (72, .iload_n 3, 1, 0, 0, 0, [], none),
  (73, .iload 5, 2, 0, 0, 0, [], none),
  (75, .iload 4, 2, 0, 0, 0, [], none),
  (77, .iload_n 1, 1, 0, 0, 0, [], none),
  (78, .isub, 1, 0, 0, 0, [], none),
  (79, .iconst 1, 1, 0, 0, 0, [], none),
  (80, .iadd, 1, 0, 0, 0, [], none),
  (81, .iload_n 2, 1, 0, 0, 0, [], none),
  (82, .iload 4, 2, 0, 0, 0, [], none),
  (84, .isub, 1, 0, 0, 0, [], none),
  (85, .invokevirtual 298, 3, 0, 0, 0, [], some mX9_brokenAll),
  (88, .iadd, 1, 0, 0, 0, [], none),
  (89, .ireturn, 1, 0, 0, 0, [], none)]
set_option maxRecDepth 100000 in
theorem kX9_joinedBy : ab_def_ok mX9_joinedBy rX9_joinedBy := ⟨ab_mok_of 1491 110 1490 70 (by decide +kernel), [0, 0, 0, 0, 0, 0, 1480, 0, 0, 0, 0, 0, 0, 1480, 0, 0, 0, 0, 0, 0, 0, 0, 0, 1480, 0, 0, 0, 0, 1480, 0, 0, 1229, 0, 0, 0, 1229, 0, 0, 0, 0, 0, 0, 0, 0, 0, 0, 0, 0, 0, 0, 1492, 0, 0], by decide +kernel⟩
set_option maxRecDepth 100000 in
theorem vX9_joinedBy_0 {x : ab_Cx} {d mc ms : Nat} {Post : Option ab_V → List ab_Ob → Prop} (hx : ab_At x mX9_joinedBy d mc ms Post) (a1 a2 a3 a4 a5 : Int) (w0 : ab_Ob) (kc ks : Nat)
    (h : ((a4 < a3 → ((-2147483648 ≤ a4 + 1 ∧ a4 + 1 ≤ 2147483647) ∧ (∃ r1 : Int, ab_Calls d 0 0 mX9_cube [ab_I (a4 + 1), ab_I a2, ab_I a3] [] (some (ab_I r1)) [] ∧ ((a4 < a3 → (∃ r2 : Int, ab_Calls d 0 0 mX9_cube [ab_I a1, ab_I a4, ab_I a5] [] (some (ab_I r2)) [] ∧ ((0 ≤ r1 ∧ r1 < (w0.2 27).1) ∧ ((0 ≤ r2 ∧ r2 < (w0.2 27).1) ∧ ((-2147483648 ≤ ((w0.2 27).2 r1) + ((w0.2 27).2 r2) ∧ ((w0.2 27).2 r1) + ((w0.2 27).2 r2) ≤ 2147483647) ∧ ((-2147483648 ≤ a4 - a1 ∧ a4 - a1 ≤ 2147483647) ∧ ((-2147483648 ≤ (a4 - a1) + 1 ∧ (a4 - a1) + 1 ≤ 2147483647) ∧ ((-2147483648 ≤ a2 - a4 ∧ a2 - a4 ≤ 2147483647) ∧ (∃ r3 : Int, ab_Calls d 0 0 mX9_brokenAll [ab_O 0, ab_I a3, ab_I a5, ab_I ((a4 - a1) + 1), ab_I (a2 - a4)] [w0] (some (ab_I r3)) [w0] ∧ ((-2147483648 ≤ (((w0.2 27).2 r1) + ((w0.2 27).2 r2)) + r3 ∧ (((w0.2 27).2 r1) + ((w0.2 27).2 r2)) + r3 ≤ 2147483647) ∧ Post (some (ab_I ((((w0.2 27).2 r1) + ((w0.2 27).2 r2)) + r3))) [w0])))))))))) ∧ (¬ a4 < a3 → ((-2147483648 ≤ a4 + 1 ∧ a4 + 1 ≤ 2147483647) ∧ (∃ r4 : Int, ab_Calls d 0 0 mX9_cube [ab_I (a4 + 1), ab_I a2, ab_I a5] [] (some (ab_I r4)) [] ∧ ((0 ≤ r1 ∧ r1 < (w0.2 27).1) ∧ ((0 ≤ r4 ∧ r4 < (w0.2 27).1) ∧ ((-2147483648 ≤ ((w0.2 27).2 r1) + ((w0.2 27).2 r4) ∧ ((w0.2 27).2 r1) + ((w0.2 27).2 r4) ≤ 2147483647) ∧ ((-2147483648 ≤ a4 - a1 ∧ a4 - a1 ≤ 2147483647) ∧ ((-2147483648 ≤ (a4 - a1) + 1 ∧ (a4 - a1) + 1 ≤ 2147483647) ∧ ((-2147483648 ≤ a2 - a4 ∧ a2 - a4 ≤ 2147483647) ∧ (∃ r5 : Int, ab_Calls d 0 0 mX9_brokenAll [ab_O 0, ab_I a3, ab_I a5, ab_I ((a4 - a1) + 1), ab_I (a2 - a4)] [w0] (some (ab_I r5)) [w0] ∧ ((-2147483648 ≤ (((w0.2 27).2 r1) + ((w0.2 27).2 r4)) + r5 ∧ (((w0.2 27).2 r1) + ((w0.2 27).2 r4)) + r5 ≤ 2147483647) ∧ Post (some (ab_I ((((w0.2 27).2 r1) + ((w0.2 27).2 r4)) + r5))) [w0]))))))))))))))) ∧ (¬ a4 < a3 → (∃ r6 : Int, ab_Calls d 0 0 mX9_cube [ab_I a1, ab_I a4, ab_I a3] [] (some (ab_I r6)) [] ∧ ((a4 < a3 → (∃ r7 : Int, ab_Calls d 0 0 mX9_cube [ab_I a1, ab_I a4, ab_I a5] [] (some (ab_I r7)) [] ∧ ((0 ≤ r6 ∧ r6 < (w0.2 27).1) ∧ ((0 ≤ r7 ∧ r7 < (w0.2 27).1) ∧ ((-2147483648 ≤ ((w0.2 27).2 r6) + ((w0.2 27).2 r7) ∧ ((w0.2 27).2 r6) + ((w0.2 27).2 r7) ≤ 2147483647) ∧ ((-2147483648 ≤ a4 - a1 ∧ a4 - a1 ≤ 2147483647) ∧ ((-2147483648 ≤ (a4 - a1) + 1 ∧ (a4 - a1) + 1 ≤ 2147483647) ∧ ((-2147483648 ≤ a2 - a4 ∧ a2 - a4 ≤ 2147483647) ∧ (∃ r8 : Int, ab_Calls d 0 0 mX9_brokenAll [ab_O 0, ab_I a3, ab_I a5, ab_I ((a4 - a1) + 1), ab_I (a2 - a4)] [w0] (some (ab_I r8)) [w0] ∧ ((-2147483648 ≤ (((w0.2 27).2 r6) + ((w0.2 27).2 r7)) + r8 ∧ (((w0.2 27).2 r6) + ((w0.2 27).2 r7)) + r8 ≤ 2147483647) ∧ Post (some (ab_I ((((w0.2 27).2 r6) + ((w0.2 27).2 r7)) + r8))) [w0])))))))))) ∧ (¬ a4 < a3 → ((-2147483648 ≤ a4 + 1 ∧ a4 + 1 ≤ 2147483647) ∧ (∃ r9 : Int, ab_Calls d 0 0 mX9_cube [ab_I (a4 + 1), ab_I a2, ab_I a5] [] (some (ab_I r9)) [] ∧ ((0 ≤ r6 ∧ r6 < (w0.2 27).1) ∧ ((0 ≤ r9 ∧ r9 < (w0.2 27).1) ∧ ((-2147483648 ≤ ((w0.2 27).2 r6) + ((w0.2 27).2 r9) ∧ ((w0.2 27).2 r6) + ((w0.2 27).2 r9) ≤ 2147483647) ∧ ((-2147483648 ≤ a4 - a1 ∧ a4 - a1 ≤ 2147483647) ∧ ((-2147483648 ≤ (a4 - a1) + 1 ∧ (a4 - a1) + 1 ≤ 2147483647) ∧ ((-2147483648 ≤ a2 - a4 ∧ a2 - a4 ≤ 2147483647) ∧ (∃ r10 : Int, ab_Calls d 0 0 mX9_brokenAll [ab_O 0, ab_I a3, ab_I a5, ab_I ((a4 - a1) + 1), ab_I (a2 - a4)] [w0] (some (ab_I r10)) [w0] ∧ ((-2147483648 ≤ (((w0.2 27).2 r6) + ((w0.2 27).2 r9)) + r10 ∧ (((w0.2 27).2 r6) + ((w0.2 27).2 r9)) + r10 ≤ 2147483647) ∧ Post (some (ab_I ((((w0.2 27).2 r6) + ((w0.2 27).2 r9)) + r10))) [w0])))))))))))))))) :
    ab_J x 0 [some (ab_O 0), some (ab_I a1), some (ab_I a2), some (ab_I a3), some (ab_I a4), some (ab_I a5), none, none] [] [w0] kc ks := ab_go hx kX9_joinedBy.2 48 [] 0 h
def mX9_tries : ab_M := ((yX9_tries, cX9_tries, 14, none), ([9], [(0, 0)], [true], false, false, 0), (false, 9, 6))
def rX9_tries : List ab_R := [(0, .aload_n 0, 1, 0, 0, 0, [], none),
  (1, .iload_n 2, 1, 0, 0, 0, [], none),
  (2, .iload_n 3, 1, 0, 0, 0, [], none),
  (3, .iload 4, 2, 0, 0, 0, [], none),
  (5, .iload 5, 2, 0, 0, 0, [], none),
  (7, .iload 6, 2, 0, 0, 0, [], none),
  (9, .invokevirtual 302, 3, 0, 0, 0, [], some mX9_joinedBy),
  (12, .istore 7, 2, 0, 0, 0, [], none),
  (14, .iload 7, 2, 0, 0, 0, [], none),
  (16, .aload_n 0, 1, 0, 0, 0, [], none),
  (17, .getfield 33, 3, 9, 27, 0, [], none),
  (20, .iload_n 1, 1, 0, 0, 0, [], none),
  (21, .iaload, 1, 0, 0, 0, [], none),
  (22, .if_icmp .le 4, 3, 0, 0, 0, [26], none),
  (25, .return_, 1, 0, 0, 0, [], none),
  (26, .aload_n 0, 1, 0, 0, 0, [], none),
  (27, .getfield 42, 3, 9, 30, 0, [], none),
  (30, .iload 4, 2, 0, 0, 0, [], none),
  (32, .iload 5, 2, 0, 0, 0, [], none),
  (34, .if_icmp .gt 14, 3, 0, 0, 0, [48], none),
  (37, .iload_n 2, 1, 0, 0, 0, [], none),
  (38, .iload 5, 2, 0, 0, 0, [], none),
  (40, .iload 4, 2, 0, 0, 0, [], none),
  (42, .invokestatic 289, 3, 0, 0, 0, [], some mX9_cube),
  (45, .goto 13, 3, 0, 0, 0, [58], none),
  (48, .iload 5, 2, 0, 0, 0, [], none),
  (50, .iconst 1, 1, 0, 0, 0, [], none),
  (51, .iadd, 1, 0, 0, 0, [], none),
  (52, .iload_n 3, 1, 0, 0, 0, [], none),
  (53, .iload 4, 2, 0, 0, 0, [], none),
  (55, .invokestatic 289, 3, 0, 0, 0, [], some mX9_cube),
  (58, .laload, 1, 0, 0, 0, [], none),
  (59, .lstore 8, 2, 0, 0, 0, [], none),
  (61, .aload_n 0, 1, 0, 0, 0, [], none),
  (62, .getfield 42, 3, 9, 30, 0, [], none),
  (65, .iload 4, 2, 0, 0, 0, [], none),
  (67, .iload 5, 2, 0, 0, 0, [], none),
  (69, .if_icmp .gt 16, 3, 0, 0, 0, [85], none),
  (72, .iload 5, 2, 0, 0, 0, [], none),
  (74, .iconst 1, 1, 0, 0, 0, [], none),
  (75, .iadd, 1, 0, 0, 0, [], none),
  (76, .iload_n 3, 1, 0, 0, 0, [], none),
  (77, .iload 6, 2, 0, 0, 0, [], none),
  (79, .invokestatic 289, 3, 0, 0, 0, [], some mX9_cube),
  (82, .goto 11, 3, 0, 0, 0, [93], none),
  (85, .iload_n 2, 1, 0, 0, 0, [], none),
  (86, .iload 5, 2, 0, 0, 0, [], none),
  (88, .iload 6, 2, 0, 0, 0, [], none),
  (90, .invokestatic 289, 3, 0, 0, 0, [], some mX9_cube),
  (93, .laload, 1, 0, 0, 0, [], none),
  (94, .lstore 10, 2, 0, 0, 0, [], none),
  (96, .lload 8, 2, 0, 0, 0, [], none),
  (98, .ldc2_w 305, 3, 0, 1000000000000, 0, [], none),
  (101, .lload 10, 2, 0, 0, 0, [], none),
  (103, .ldiv, 1, 0, 0, 0, [], none),
  (104, .lcmp, 1, 0, 0, 0, [], none),
  (105, .ifCond .le 9, 3, 0, 0, 0, [114], none),
  (108, .ldc2_w 305, 3, 0, 1000000000000, 0, [], none),
  (111, .goto 8, 3, 0, 0, 0, [119], none),
  (114, .lload 8, 2, 0, 0, 0, [], none),
  (116, .lload 10, 2, 0, 0, 0, [], none),
  (118, .lmul, 1, 0, 0, 0, [], none),
  (119, .lstore 12, 2, 0, 0, 0, [], none),
  (121, .iload 7, 2, 0, 0, 0, [], none),
  (123, .aload_n 0, 1, 0, 0, 0, [], none),
  (124, .getfield 33, 3, 9, 27, 0, [], none),
  (127, .iload_n 1, 1, 0, 0, 0, [], none),
  (128, .iaload, 1, 0, 0, 0, [], none),
  (129, .if_icmp .ge 34, 3, 0, 0, 0, [163], none),
  (132, .aload_n 0, 1, 0, 0, 0, [], none),
  (133, .getfield 33, 3, 9, 27, 0, [], none),
  (136, .iload_n 1, 1, 0, 0, 0, [], none),
  (137, .iload 7, 2, 0, 0, 0, [], none),
  (139, .iastore, 1, 0, 0, 0, [], none),
  (140, .aload_n 0, 1, 0, 0, 0, [], none),
  (141, .getfield 36, 3, 9, 28, 0, [], none),
  (144, .iload_n 1, 1, 0, 0, 0, [], none),
  (145, .iload 5, 2, 0, 0, 0, [], none),
  (147, .iastore, 1, 0, 0, 0, [], none),
  (148, .aload_n 0, 1, 0, 0, 0, [], none),
  (149, .getfield 39, 3, 9, 29, 0, [], none),
  (152, .iload_n 1, 1, 0, 0, 0, [], none),
  (153, .iload 6, 2, 0, 0, 0, [], none),
  (155, .iastore, 1, 0, 0, 0, [], none),
  (156, .aload_n 0, 1, 0, 0, 0, [], none),
  (157, .getfield 42, 3, 9, 30, 0, [], none),
  (160, .iload_n 1, 1, 0, 0, 0, [], none),
  (161, .lconst 0, 1, 0, 0, 0, [], none),
  (162, .lastore, 1, 0, 0, 0, [], none),
  (163, .aload_n 0, 1, 0, 0, 0, [], none),
  (164, .getfield 42, 3, 9, 30, 0, [], none),
  (167, .iload_n 1, 1, 0, 0, 0, [], none),
  (168, .aload_n 0, 1, 0, 0, 0, [], none),
  (169, .getfield 42, 3, 9, 30, 0, [], none),
  (172, .iload_n 1, 1, 0, 0, 0, [], none),
  (173, .laload, 1, 0, 0, 0, [], none),
  (174, .lload 12, 2, 0, 0, 0, [], none),
  (176, .ladd, 1, 0, 0, 0, [], none),
  (177, .ldc2_w 305, 3, 0, 1000000000000, 0, [], none),
  (180, .lcmp, 1, 0, 0, 0, [], none),
  (181, .ifCond .le 9, 3, 0, 0, 0, [190], none),
  (184, .ldc2_w 305, 3, 0, 1000000000000, 0, [], none),
  (187, .goto 12, 3, 0, 0, 0, [199], none),
  (190, .aload_n 0, 1, 0, 0, 0, [], none),
  (191, .getfield 42, 3, 9, 30, 0, [], none),
  (194, .iload_n 1, 1, 0, 0, 0, [], none),
  (195, .laload, 1, 0, 0, 0, [], none),
  (196, .lload 12, 2, 0, 0, 0, [], none),
  (198, .ladd, 1, 0, 0, 0, [], none),
  (199, .lastore, 1, 0, 0, 0, [], none),
  (200, .return_, 1, 0, 0, 0, [], none)]
set_option maxRecDepth 100000 in
theorem kX9_tries : ab_def_ok mX9_tries rX9_tries := ⟨ab_mok_of 1487 110 1486 69 (by decide +kernel), [0, 0, 0, 0, 0, 0, 1488, 0, 0, 0, 1229, 0, 0, 0, 0, 0, 1232, 0, 0, 0, 0, 0, 0, 1480, 0, 0, 0, 0, 0, 0, 1480, 0, 0, 0, 1232, 0, 0, 0, 0, 0, 0, 0, 0, 1480, 0, 0, 0, 0, 1480, 0, 0, 0, 1506, 0, 0, 0, 0, 1506, 0, 0, 0, 0, 0, 0, 0, 1229, 0, 0, 0, 0, 1229, 0, 0, 0, 0, 1230, 0, 0, 0, 0, 1231, 0, 0, 0, 0, 1232, 0, 0, 0, 0, 1232, 0, 0, 1232, 0, 0, 0, 0, 1506, 0, 0, 1506, 0, 0, 1232, 0, 0, 0, 0, 0, 0], by decide +kernel⟩
set_option maxRecDepth 100000 in
theorem vX9_tries_0 {x : ab_Cx} {d mc ms : Nat} {Post : Option ab_V → List ab_Ob → Prop} (hx : ab_At x mX9_tries d mc ms Post) (a1 a2 a3 a4 a5 a6 : Int) (w0 : ab_Ob) (kc ks : Nat)
    (h : (∃ r1 : Int, ab_Calls d 0 0 mX9_joinedBy [ab_O 0, ab_I a2, ab_I a3, ab_I a4, ab_I a5, ab_I a6] [w0] (some (ab_I r1)) [w0] ∧ ((0 ≤ a1 ∧ a1 < (w0.2 27).1) ∧ ((r1 ≤ ((w0.2 27).2 a1) → ((a5 < a4 → ((-2147483648 ≤ a5 + 1 ∧ a5 + 1 ≤ 2147483647) ∧ (∃ r2 : Int, ab_Calls d 0 0 mX9_cube [ab_I (a5 + 1), ab_I a3, ab_I a4] [] (some (ab_I r2)) [] ∧ ((0 ≤ r2 ∧ r2 < (w0.2 30).1) ∧ ((a5 < a4 → (∃ r3 : Int, ab_Calls d 0 0 mX9_cube [ab_I a2, ab_I a5, ab_I a6] [] (some (ab_I r3)) [] ∧ ((0 ≤ r3 ∧ r3 < (w0.2 30).1) ∧ ((¬ (w0.2 30).2 r3 = 0) ∧ ((-9223372036854775808 ≤ (Int.tdiv 1000000000000 ((w0.2 30).2 r3)) ∧ (Int.tdiv 1000000000000 ((w0.2 30).2 r3)) ≤ 9223372036854775807) ∧ (((ab_cmp ((w0.2 30).2 r2) (Int.tdiv 1000000000000 ((w0.2 30).2 r3))) ≤ 0 → ((-9223372036854775808 ≤ ((w0.2 30).2 r2) * ((w0.2 30).2 r3) ∧ ((w0.2 30).2 r2) * ((w0.2 30).2 r3) ≤ 9223372036854775807) ∧ ((0 ≤ a1 ∧ a1 < (w0.2 27).1) ∧ ((((w0.2 27).2 a1) ≤ r1 → ((0 ≤ a1 ∧ a1 < (w0.2 30).1) ∧ ((-9223372036854775808 ≤ ((w0.2 30).2 a1) + (((w0.2 30).2 r2) * ((w0.2 30).2 r3)) ∧ ((w0.2 30).2 a1) + (((w0.2 30).2 r2) * ((w0.2 30).2 r3)) ≤ 9223372036854775807) ∧ (((ab_cmp (((w0.2 30).2 a1) + (((w0.2 30).2 r2) * ((w0.2 30).2 r3))) 1000000000000) ≤ 0 → ((0 ≤ a1 ∧ a1 < (w0.2 30).1) ∧ ((-9223372036854775808 ≤ ((w0.2 30).2 a1) + (((w0.2 30).2 r2) * ((w0.2 30).2 r3)) ∧ ((w0.2 30).2 a1) + (((w0.2 30).2 r2) * ((w0.2 30).2 r3)) ≤ 9223372036854775807) ∧ ((0 ≤ a1 ∧ a1 < (w0.2 30).1) ∧ Post none [(ab_pa w0 30 a1 (((w0.2 30).2 a1) + (((w0.2 30).2 r2) * ((w0.2 30).2 r3))))])))) ∧ (¬ (ab_cmp (((w0.2 30).2 a1) + (((w0.2 30).2 r2) * ((w0.2 30).2 r3))) 1000000000000) ≤ 0 → ((0 ≤ a1 ∧ a1 < (w0.2 30).1) ∧ Post none [(ab_pa w0 30 a1 1000000000000)])))))) ∧ (¬ ((w0.2 27).2 a1) ≤ r1 → ((0 ≤ a1 ∧ a1 < (w0.2 27).1) ∧ ((0 ≤ a1 ∧ a1 < (w0.2 28).1) ∧ ((0 ≤ a1 ∧ a1 < (w0.2 29).1) ∧ ((0 ≤ a1 ∧ a1 < (w0.2 30).1) ∧ ((0 ≤ a1 ∧ a1 < (w0.2 30).1) ∧ ((-9223372036854775808 ≤ ((ab_ui (w0.2 30).2 a1 0) a1) + (((w0.2 30).2 r2) * ((w0.2 30).2 r3)) ∧ ((ab_ui (w0.2 30).2 a1 0) a1) + (((w0.2 30).2 r2) * ((w0.2 30).2 r3)) ≤ 9223372036854775807) ∧ (((ab_cmp (((ab_ui (w0.2 30).2 a1 0) a1) + (((w0.2 30).2 r2) * ((w0.2 30).2 r3))) 1000000000000) ≤ 0 → ((0 ≤ a1 ∧ a1 < (w0.2 30).1) ∧ ((-9223372036854775808 ≤ ((ab_ui (w0.2 30).2 a1 0) a1) + (((w0.2 30).2 r2) * ((w0.2 30).2 r3)) ∧ ((ab_ui (w0.2 30).2 a1 0) a1) + (((w0.2 30).2 r2) * ((w0.2 30).2 r3)) ≤ 9223372036854775807) ∧ ((0 ≤ a1 ∧ a1 < (w0.2 30).1) ∧ Post none [(ab_pa (ab_pa (ab_pa (ab_pa (ab_pa w0 27 a1 r1) 28 a1 a5) 29 a1 a6) 30 a1 0) 30 a1 (((ab_ui (w0.2 30).2 a1 0) a1) + (((w0.2 30).2 r2) * ((w0.2 30).2 r3))))])))) ∧ (¬ (ab_cmp (((ab_ui (w0.2 30).2 a1 0) a1) + (((w0.2 30).2 r2) * ((w0.2 30).2 r3))) 1000000000000) ≤ 0 → ((0 ≤ a1 ∧ a1 < (w0.2 30).1) ∧ Post none [(ab_pa (ab_pa (ab_pa (ab_pa (ab_pa w0 27 a1 r1) 28 a1 a5) 29 a1 a6) 30 a1 0) 30 a1 1000000000000)])))))))))))))) ∧ (¬ (ab_cmp ((w0.2 30).2 r2) (Int.tdiv 1000000000000 ((w0.2 30).2 r3))) ≤ 0 → ((0 ≤ a1 ∧ a1 < (w0.2 27).1) ∧ ((((w0.2 27).2 a1) ≤ r1 → ((0 ≤ a1 ∧ a1 < (w0.2 30).1) ∧ ((-9223372036854775808 ≤ ((w0.2 30).2 a1) + 1000000000000 ∧ ((w0.2 30).2 a1) + 1000000000000 ≤ 9223372036854775807) ∧ (((ab_cmp (((w0.2 30).2 a1) + 1000000000000) 1000000000000) ≤ 0 → ((0 ≤ a1 ∧ a1 < (w0.2 30).1) ∧ ((-9223372036854775808 ≤ ((w0.2 30).2 a1) + 1000000000000 ∧ ((w0.2 30).2 a1) + 1000000000000 ≤ 9223372036854775807) ∧ ((0 ≤ a1 ∧ a1 < (w0.2 30).1) ∧ Post none [(ab_pa w0 30 a1 (((w0.2 30).2 a1) + 1000000000000))])))) ∧ (¬ (ab_cmp (((w0.2 30).2 a1) + 1000000000000) 1000000000000) ≤ 0 → ((0 ≤ a1 ∧ a1 < (w0.2 30).1) ∧ Post none [(ab_pa w0 30 a1 1000000000000)])))))) ∧ (¬ ((w0.2 27).2 a1) ≤ r1 → ((0 ≤ a1 ∧ a1 < (w0.2 27).1) ∧ ((0 ≤ a1 ∧ a1 < (w0.2 28).1) ∧ ((0 ≤ a1 ∧ a1 < (w0.2 29).1) ∧ ((0 ≤ a1 ∧ a1 < (w0.2 30).1) ∧ ((0 ≤ a1 ∧ a1 < (w0.2 30).1) ∧ ((-9223372036854775808 ≤ ((ab_ui (w0.2 30).2 a1 0) a1) + 1000000000000 ∧ ((ab_ui (w0.2 30).2 a1 0) a1) + 1000000000000 ≤ 9223372036854775807) ∧ (((ab_cmp (((ab_ui (w0.2 30).2 a1 0) a1) + 1000000000000) 1000000000000) ≤ 0 → ((0 ≤ a1 ∧ a1 < (w0.2 30).1) ∧ ((-9223372036854775808 ≤ ((ab_ui (w0.2 30).2 a1 0) a1) + 1000000000000 ∧ ((ab_ui (w0.2 30).2 a1 0) a1) + 1000000000000 ≤ 9223372036854775807) ∧ ((0 ≤ a1 ∧ a1 < (w0.2 30).1) ∧ Post none [(ab_pa (ab_pa (ab_pa (ab_pa (ab_pa w0 27 a1 r1) 28 a1 a5) 29 a1 a6) 30 a1 0) 30 a1 (((ab_ui (w0.2 30).2 a1 0) a1) + 1000000000000))])))) ∧ (¬ (ab_cmp (((ab_ui (w0.2 30).2 a1 0) a1) + 1000000000000) 1000000000000) ≤ 0 → ((0 ≤ a1 ∧ a1 < (w0.2 30).1) ∧ Post none [(ab_pa (ab_pa (ab_pa (ab_pa (ab_pa w0 27 a1 r1) 28 a1 a5) 29 a1 a6) 30 a1 0) 30 a1 1000000000000)]))))))))))))))))))) ∧ (¬ a5 < a4 → ((-2147483648 ≤ a5 + 1 ∧ a5 + 1 ≤ 2147483647) ∧ (∃ r4 : Int, ab_Calls d 0 0 mX9_cube [ab_I (a5 + 1), ab_I a3, ab_I a6] [] (some (ab_I r4)) [] ∧ ((0 ≤ r4 ∧ r4 < (w0.2 30).1) ∧ ((¬ (w0.2 30).2 r4 = 0) ∧ ((-9223372036854775808 ≤ (Int.tdiv 1000000000000 ((w0.2 30).2 r4)) ∧ (Int.tdiv 1000000000000 ((w0.2 30).2 r4)) ≤ 9223372036854775807) ∧ (((ab_cmp ((w0.2 30).2 r2) (Int.tdiv 1000000000000 ((w0.2 30).2 r4))) ≤ 0 → ((-9223372036854775808 ≤ ((w0.2 30).2 r2) * ((w0.2 30).2 r4) ∧ ((w0.2 30).2 r2) * ((w0.2 30).2 r4) ≤ 9223372036854775807) ∧ ((0 ≤ a1 ∧ a1 < (w0.2 27).1) ∧ ((((w0.2 27).2 a1) ≤ r1 → ((0 ≤ a1 ∧ a1 < (w0.2 30).1) ∧ ((-9223372036854775808 ≤ ((w0.2 30).2 a1) + (((w0.2 30).2 r2) * ((w0.2 30).2 r4)) ∧ ((w0.2 30).2 a1) + (((w0.2 30).2 r2) * ((w0.2 30).2 r4)) ≤ 9223372036854775807) ∧ (((ab_cmp (((w0.2 30).2 a1) + (((w0.2 30).2 r2) * ((w0.2 30).2 r4))) 1000000000000) ≤ 0 → ((0 ≤ a1 ∧ a1 < (w0.2 30).1) ∧ ((-9223372036854775808 ≤ ((w0.2 30).2 a1) + (((w0.2 30).2 r2) * ((w0.2 30).2 r4)) ∧ ((w0.2 30).2 a1) + (((w0.2 30).2 r2) * ((w0.2 30).2 r4)) ≤ 9223372036854775807) ∧ ((0 ≤ a1 ∧ a1 < (w0.2 30).1) ∧ Post none [(ab_pa w0 30 a1 (((w0.2 30).2 a1) + (((w0.2 30).2 r2) * ((w0.2 30).2 r4))))])))) ∧ (¬ (ab_cmp (((w0.2 30).2 a1) + (((w0.2 30).2 r2) * ((w0.2 30).2 r4))) 1000000000000) ≤ 0 → ((0 ≤ a1 ∧ a1 < (w0.2 30).1) ∧ Post none [(ab_pa w0 30 a1 1000000000000)])))))) ∧ (¬ ((w0.2 27).2 a1) ≤ r1 → ((0 ≤ a1 ∧ a1 < (w0.2 27).1) ∧ ((0 ≤ a1 ∧ a1 < (w0.2 28).1) ∧ ((0 ≤ a1 ∧ a1 < (w0.2 29).1) ∧ ((0 ≤ a1 ∧ a1 < (w0.2 30).1) ∧ ((0 ≤ a1 ∧ a1 < (w0.2 30).1) ∧ ((-9223372036854775808 ≤ ((ab_ui (w0.2 30).2 a1 0) a1) + (((w0.2 30).2 r2) * ((w0.2 30).2 r4)) ∧ ((ab_ui (w0.2 30).2 a1 0) a1) + (((w0.2 30).2 r2) * ((w0.2 30).2 r4)) ≤ 9223372036854775807) ∧ (((ab_cmp (((ab_ui (w0.2 30).2 a1 0) a1) + (((w0.2 30).2 r2) * ((w0.2 30).2 r4))) 1000000000000) ≤ 0 → ((0 ≤ a1 ∧ a1 < (w0.2 30).1) ∧ ((-9223372036854775808 ≤ ((ab_ui (w0.2 30).2 a1 0) a1) + (((w0.2 30).2 r2) * ((w0.2 30).2 r4)) ∧ ((ab_ui (w0.2 30).2 a1 0) a1) + (((w0.2 30).2 r2) * ((w0.2 30).2 r4)) ≤ 9223372036854775807) ∧ ((0 ≤ a1 ∧ a1 < (w0.2 30).1) ∧ Post none [(ab_pa (ab_pa (ab_pa (ab_pa (ab_pa w0 27 a1 r1) 28 a1 a5) 29 a1 a6) 30 a1 0) 30 a1 (((ab_ui (w0.2 30).2 a1 0) a1) + (((w0.2 30).2 r2) * ((w0.2 30).2 r4))))])))) ∧ (¬ (ab_cmp (((ab_ui (w0.2 30).2 a1 0) a1) + (((w0.2 30).2 r2) * ((w0.2 30).2 r4))) 1000000000000) ≤ 0 → ((0 ≤ a1 ∧ a1 < (w0.2 30).1) ∧ Post none [(ab_pa (ab_pa (ab_pa (ab_pa (ab_pa w0 27 a1 r1) 28 a1 a5) 29 a1 a6) 30 a1 0) 30 a1 1000000000000)])))))))))))))) ∧ (¬ (ab_cmp ((w0.2 30).2 r2) (Int.tdiv 1000000000000 ((w0.2 30).2 r4))) ≤ 0 → ((0 ≤ a1 ∧ a1 < (w0.2 27).1) ∧ ((((w0.2 27).2 a1) ≤ r1 → ((0 ≤ a1 ∧ a1 < (w0.2 30).1) ∧ ((-9223372036854775808 ≤ ((w0.2 30).2 a1) + 1000000000000 ∧ ((w0.2 30).2 a1) + 1000000000000 ≤ 9223372036854775807) ∧ (((ab_cmp (((w0.2 30).2 a1) + 1000000000000) 1000000000000) ≤ 0 → ((0 ≤ a1 ∧ a1 < (w0.2 30).1) ∧ ((-9223372036854775808 ≤ ((w0.2 30).2 a1) + 1000000000000 ∧ ((w0.2 30).2 a1) + 1000000000000 ≤ 9223372036854775807) ∧ ((0 ≤ a1 ∧ a1 < (w0.2 30).1) ∧ Post none [(ab_pa w0 30 a1 (((w0.2 30).2 a1) + 1000000000000))])))) ∧ (¬ (ab_cmp (((w0.2 30).2 a1) + 1000000000000) 1000000000000) ≤ 0 → ((0 ≤ a1 ∧ a1 < (w0.2 30).1) ∧ Post none [(ab_pa w0 30 a1 1000000000000)])))))) ∧ (¬ ((w0.2 27).2 a1) ≤ r1 → ((0 ≤ a1 ∧ a1 < (w0.2 27).1) ∧ ((0 ≤ a1 ∧ a1 < (w0.2 28).1) ∧ ((0 ≤ a1 ∧ a1 < (w0.2 29).1) ∧ ((0 ≤ a1 ∧ a1 < (w0.2 30).1) ∧ ((0 ≤ a1 ∧ a1 < (w0.2 30).1) ∧ ((-9223372036854775808 ≤ ((ab_ui (w0.2 30).2 a1 0) a1) + 1000000000000 ∧ ((ab_ui (w0.2 30).2 a1 0) a1) + 1000000000000 ≤ 9223372036854775807) ∧ (((ab_cmp (((ab_ui (w0.2 30).2 a1 0) a1) + 1000000000000) 1000000000000) ≤ 0 → ((0 ≤ a1 ∧ a1 < (w0.2 30).1) ∧ ((-9223372036854775808 ≤ ((ab_ui (w0.2 30).2 a1 0) a1) + 1000000000000 ∧ ((ab_ui (w0.2 30).2 a1 0) a1) + 1000000000000 ≤ 9223372036854775807) ∧ ((0 ≤ a1 ∧ a1 < (w0.2 30).1) ∧ Post none [(ab_pa (ab_pa (ab_pa (ab_pa (ab_pa w0 27 a1 r1) 28 a1 a5) 29 a1 a6) 30 a1 0) 30 a1 (((ab_ui (w0.2 30).2 a1 0) a1) + 1000000000000))])))) ∧ (¬ (ab_cmp (((ab_ui (w0.2 30).2 a1 0) a1) + 1000000000000) 1000000000000) ≤ 0 → ((0 ≤ a1 ∧ a1 < (w0.2 30).1) ∧ Post none [(ab_pa (ab_pa (ab_pa (ab_pa (ab_pa w0 27 a1 r1) 28 a1 a5) 29 a1 a6) 30 a1 0) 30 a1 1000000000000)]))))))))))))))))))))))))) ∧ (¬ a5 < a4 → (∃ r5 : Int, ab_Calls d 0 0 mX9_cube [ab_I a2, ab_I a5, ab_I a4] [] (some (ab_I r5)) [] ∧ ((0 ≤ r5 ∧ r5 < (w0.2 30).1) ∧ ((a5 < a4 → (∃ r6 : Int, ab_Calls d 0 0 mX9_cube [ab_I a2, ab_I a5, ab_I a6] [] (some (ab_I r6)) [] ∧ ((0 ≤ r6 ∧ r6 < (w0.2 30).1) ∧ ((¬ (w0.2 30).2 r6 = 0) ∧ ((-9223372036854775808 ≤ (Int.tdiv 1000000000000 ((w0.2 30).2 r6)) ∧ (Int.tdiv 1000000000000 ((w0.2 30).2 r6)) ≤ 9223372036854775807) ∧ (((ab_cmp ((w0.2 30).2 r5) (Int.tdiv 1000000000000 ((w0.2 30).2 r6))) ≤ 0 → ((-9223372036854775808 ≤ ((w0.2 30).2 r5) * ((w0.2 30).2 r6) ∧ ((w0.2 30).2 r5) * ((w0.2 30).2 r6) ≤ 9223372036854775807) ∧ ((0 ≤ a1 ∧ a1 < (w0.2 27).1) ∧ ((((w0.2 27).2 a1) ≤ r1 → ((0 ≤ a1 ∧ a1 < (w0.2 30).1) ∧ ((-9223372036854775808 ≤ ((w0.2 30).2 a1) + (((w0.2 30).2 r5) * ((w0.2 30).2 r6)) ∧ ((w0.2 30).2 a1) + (((w0.2 30).2 r5) * ((w0.2 30).2 r6)) ≤ 9223372036854775807) ∧ (((ab_cmp (((w0.2 30).2 a1) + (((w0.2 30).2 r5) * ((w0.2 30).2 r6))) 1000000000000) ≤ 0 → ((0 ≤ a1 ∧ a1 < (w0.2 30).1) ∧ ((-9223372036854775808 ≤ ((w0.2 30).2 a1) + (((w0.2 30).2 r5) * ((w0.2 30).2 r6)) ∧ ((w0.2 30).2 a1) + (((w0.2 30).2 r5) * ((w0.2 30).2 r6)) ≤ 9223372036854775807) ∧ ((0 ≤ a1 ∧ a1 < (w0.2 30).1) ∧ Post none [(ab_pa w0 30 a1 (((w0.2 30).2 a1) + (((w0.2 30).2 r5) * ((w0.2 30).2 r6))))])))) ∧ (¬ (ab_cmp (((w0.2 30).2 a1) + (((w0.2 30).2 r5) * ((w0.2 30).2 r6))) 1000000000000) ≤ 0 → ((0 ≤ a1 ∧ a1 < (w0.2 30).1) ∧ Post none [(ab_pa w0 30 a1 1000000000000)])))))) ∧ (¬ ((w0.2 27).2 a1) ≤ r1 → ((0 ≤ a1 ∧ a1 < (w0.2 27).1) ∧ ((0 ≤ a1 ∧ a1 < (w0.2 28).1) ∧ ((0 ≤ a1 ∧ a1 < (w0.2 29).1) ∧ ((0 ≤ a1 ∧ a1 < (w0.2 30).1) ∧ ((0 ≤ a1 ∧ a1 < (w0.2 30).1) ∧ ((-9223372036854775808 ≤ ((ab_ui (w0.2 30).2 a1 0) a1) + (((w0.2 30).2 r5) * ((w0.2 30).2 r6)) ∧ ((ab_ui (w0.2 30).2 a1 0) a1) + (((w0.2 30).2 r5) * ((w0.2 30).2 r6)) ≤ 9223372036854775807) ∧ (((ab_cmp (((ab_ui (w0.2 30).2 a1 0) a1) + (((w0.2 30).2 r5) * ((w0.2 30).2 r6))) 1000000000000) ≤ 0 → ((0 ≤ a1 ∧ a1 < (w0.2 30).1) ∧ ((-9223372036854775808 ≤ ((ab_ui (w0.2 30).2 a1 0) a1) + (((w0.2 30).2 r5) * ((w0.2 30).2 r6)) ∧ ((ab_ui (w0.2 30).2 a1 0) a1) + (((w0.2 30).2 r5) * ((w0.2 30).2 r6)) ≤ 9223372036854775807) ∧ ((0 ≤ a1 ∧ a1 < (w0.2 30).1) ∧ Post none [(ab_pa (ab_pa (ab_pa (ab_pa (ab_pa w0 27 a1 r1) 28 a1 a5) 29 a1 a6) 30 a1 0) 30 a1 (((ab_ui (w0.2 30).2 a1 0) a1) + (((w0.2 30).2 r5) * ((w0.2 30).2 r6))))])))) ∧ (¬ (ab_cmp (((ab_ui (w0.2 30).2 a1 0) a1) + (((w0.2 30).2 r5) * ((w0.2 30).2 r6))) 1000000000000) ≤ 0 → ((0 ≤ a1 ∧ a1 < (w0.2 30).1) ∧ Post none [(ab_pa (ab_pa (ab_pa (ab_pa (ab_pa w0 27 a1 r1) 28 a1 a5) 29 a1 a6) 30 a1 0) 30 a1 1000000000000)])))))))))))))) ∧ (¬ (ab_cmp ((w0.2 30).2 r5) (Int.tdiv 1000000000000 ((w0.2 30).2 r6))) ≤ 0 → ((0 ≤ a1 ∧ a1 < (w0.2 27).1) ∧ ((((w0.2 27).2 a1) ≤ r1 → ((0 ≤ a1 ∧ a1 < (w0.2 30).1) ∧ ((-9223372036854775808 ≤ ((w0.2 30).2 a1) + 1000000000000 ∧ ((w0.2 30).2 a1) + 1000000000000 ≤ 9223372036854775807) ∧ (((ab_cmp (((w0.2 30).2 a1) + 1000000000000) 1000000000000) ≤ 0 → ((0 ≤ a1 ∧ a1 < (w0.2 30).1) ∧ ((-9223372036854775808 ≤ ((w0.2 30).2 a1) + 1000000000000 ∧ ((w0.2 30).2 a1) + 1000000000000 ≤ 9223372036854775807) ∧ ((0 ≤ a1 ∧ a1 < (w0.2 30).1) ∧ Post none [(ab_pa w0 30 a1 (((w0.2 30).2 a1) + 1000000000000))])))) ∧ (¬ (ab_cmp (((w0.2 30).2 a1) + 1000000000000) 1000000000000) ≤ 0 → ((0 ≤ a1 ∧ a1 < (w0.2 30).1) ∧ Post none [(ab_pa w0 30 a1 1000000000000)])))))) ∧ (¬ ((w0.2 27).2 a1) ≤ r1 → ((0 ≤ a1 ∧ a1 < (w0.2 27).1) ∧ ((0 ≤ a1 ∧ a1 < (w0.2 28).1) ∧ ((0 ≤ a1 ∧ a1 < (w0.2 29).1) ∧ ((0 ≤ a1 ∧ a1 < (w0.2 30).1) ∧ ((0 ≤ a1 ∧ a1 < (w0.2 30).1) ∧ ((-9223372036854775808 ≤ ((ab_ui (w0.2 30).2 a1 0) a1) + 1000000000000 ∧ ((ab_ui (w0.2 30).2 a1 0) a1) + 1000000000000 ≤ 9223372036854775807) ∧ (((ab_cmp (((ab_ui (w0.2 30).2 a1 0) a1) + 1000000000000) 1000000000000) ≤ 0 → ((0 ≤ a1 ∧ a1 < (w0.2 30).1) ∧ ((-9223372036854775808 ≤ ((ab_ui (w0.2 30).2 a1 0) a1) + 1000000000000 ∧ ((ab_ui (w0.2 30).2 a1 0) a1) + 1000000000000 ≤ 9223372036854775807) ∧ ((0 ≤ a1 ∧ a1 < (w0.2 30).1) ∧ Post none [(ab_pa (ab_pa (ab_pa (ab_pa (ab_pa w0 27 a1 r1) 28 a1 a5) 29 a1 a6) 30 a1 0) 30 a1 (((ab_ui (w0.2 30).2 a1 0) a1) + 1000000000000))])))) ∧ (¬ (ab_cmp (((ab_ui (w0.2 30).2 a1 0) a1) + 1000000000000) 1000000000000) ≤ 0 → ((0 ≤ a1 ∧ a1 < (w0.2 30).1) ∧ Post none [(ab_pa (ab_pa (ab_pa (ab_pa (ab_pa w0 27 a1 r1) 28 a1 a5) 29 a1 a6) 30 a1 0) 30 a1 1000000000000)]))))))))))))))))))) ∧ (¬ a5 < a4 → ((-2147483648 ≤ a5 + 1 ∧ a5 + 1 ≤ 2147483647) ∧ (∃ r7 : Int, ab_Calls d 0 0 mX9_cube [ab_I (a5 + 1), ab_I a3, ab_I a6] [] (some (ab_I r7)) [] ∧ ((0 ≤ r7 ∧ r7 < (w0.2 30).1) ∧ ((¬ (w0.2 30).2 r7 = 0) ∧ ((-9223372036854775808 ≤ (Int.tdiv 1000000000000 ((w0.2 30).2 r7)) ∧ (Int.tdiv 1000000000000 ((w0.2 30).2 r7)) ≤ 9223372036854775807) ∧ (((ab_cmp ((w0.2 30).2 r5) (Int.tdiv 1000000000000 ((w0.2 30).2 r7))) ≤ 0 → ((-9223372036854775808 ≤ ((w0.2 30).2 r5) * ((w0.2 30).2 r7) ∧ ((w0.2 30).2 r5) * ((w0.2 30).2 r7) ≤ 9223372036854775807) ∧ ((0 ≤ a1 ∧ a1 < (w0.2 27).1) ∧ ((((w0.2 27).2 a1) ≤ r1 → ((0 ≤ a1 ∧ a1 < (w0.2 30).1) ∧ ((-9223372036854775808 ≤ ((w0.2 30).2 a1) + (((w0.2 30).2 r5) * ((w0.2 30).2 r7)) ∧ ((w0.2 30).2 a1) + (((w0.2 30).2 r5) * ((w0.2 30).2 r7)) ≤ 9223372036854775807) ∧ (((ab_cmp (((w0.2 30).2 a1) + (((w0.2 30).2 r5) * ((w0.2 30).2 r7))) 1000000000000) ≤ 0 → ((0 ≤ a1 ∧ a1 < (w0.2 30).1) ∧ ((-9223372036854775808 ≤ ((w0.2 30).2 a1) + (((w0.2 30).2 r5) * ((w0.2 30).2 r7)) ∧ ((w0.2 30).2 a1) + (((w0.2 30).2 r5) * ((w0.2 30).2 r7)) ≤ 9223372036854775807) ∧ ((0 ≤ a1 ∧ a1 < (w0.2 30).1) ∧ Post none [(ab_pa w0 30 a1 (((w0.2 30).2 a1) + (((w0.2 30).2 r5) * ((w0.2 30).2 r7))))])))) ∧ (¬ (ab_cmp (((w0.2 30).2 a1) + (((w0.2 30).2 r5) * ((w0.2 30).2 r7))) 1000000000000) ≤ 0 → ((0 ≤ a1 ∧ a1 < (w0.2 30).1) ∧ Post none [(ab_pa w0 30 a1 1000000000000)])))))) ∧ (¬ ((w0.2 27).2 a1) ≤ r1 → ((0 ≤ a1 ∧ a1 < (w0.2 27).1) ∧ ((0 ≤ a1 ∧ a1 < (w0.2 28).1) ∧ ((0 ≤ a1 ∧ a1 < (w0.2 29).1) ∧ ((0 ≤ a1 ∧ a1 < (w0.2 30).1) ∧ ((0 ≤ a1 ∧ a1 < (w0.2 30).1) ∧ ((-9223372036854775808 ≤ ((ab_ui (w0.2 30).2 a1 0) a1) + (((w0.2 30).2 r5) * ((w0.2 30).2 r7)) ∧ ((ab_ui (w0.2 30).2 a1 0) a1) + (((w0.2 30).2 r5) * ((w0.2 30).2 r7)) ≤ 9223372036854775807) ∧ (((ab_cmp (((ab_ui (w0.2 30).2 a1 0) a1) + (((w0.2 30).2 r5) * ((w0.2 30).2 r7))) 1000000000000) ≤ 0 → ((0 ≤ a1 ∧ a1 < (w0.2 30).1) ∧ ((-9223372036854775808 ≤ ((ab_ui (w0.2 30).2 a1 0) a1) + (((w0.2 30).2 r5) * ((w0.2 30).2 r7)) ∧ ((ab_ui (w0.2 30).2 a1 0) a1) + (((w0.2 30).2 r5) * ((w0.2 30).2 r7)) ≤ 9223372036854775807) ∧ ((0 ≤ a1 ∧ a1 < (w0.2 30).1) ∧ Post none [(ab_pa (ab_pa (ab_pa (ab_pa (ab_pa w0 27 a1 r1) 28 a1 a5) 29 a1 a6) 30 a1 0) 30 a1 (((ab_ui (w0.2 30).2 a1 0) a1) + (((w0.2 30).2 r5) * ((w0.2 30).2 r7))))])))) ∧ (¬ (ab_cmp (((ab_ui (w0.2 30).2 a1 0) a1) + (((w0.2 30).2 r5) * ((w0.2 30).2 r7))) 1000000000000) ≤ 0 → ((0 ≤ a1 ∧ a1 < (w0.2 30).1) ∧ Post none [(ab_pa (ab_pa (ab_pa (ab_pa (ab_pa w0 27 a1 r1) 28 a1 a5) 29 a1 a6) 30 a1 0) 30 a1 1000000000000)])))))))))))))) ∧ (¬ (ab_cmp ((w0.2 30).2 r5) (Int.tdiv 1000000000000 ((w0.2 30).2 r7))) ≤ 0 → ((0 ≤ a1 ∧ a1 < (w0.2 27).1) ∧ ((((w0.2 27).2 a1) ≤ r1 → ((0 ≤ a1 ∧ a1 < (w0.2 30).1) ∧ ((-9223372036854775808 ≤ ((w0.2 30).2 a1) + 1000000000000 ∧ ((w0.2 30).2 a1) + 1000000000000 ≤ 9223372036854775807) ∧ (((ab_cmp (((w0.2 30).2 a1) + 1000000000000) 1000000000000) ≤ 0 → ((0 ≤ a1 ∧ a1 < (w0.2 30).1) ∧ ((-9223372036854775808 ≤ ((w0.2 30).2 a1) + 1000000000000 ∧ ((w0.2 30).2 a1) + 1000000000000 ≤ 9223372036854775807) ∧ ((0 ≤ a1 ∧ a1 < (w0.2 30).1) ∧ Post none [(ab_pa w0 30 a1 (((w0.2 30).2 a1) + 1000000000000))])))) ∧ (¬ (ab_cmp (((w0.2 30).2 a1) + 1000000000000) 1000000000000) ≤ 0 → ((0 ≤ a1 ∧ a1 < (w0.2 30).1) ∧ Post none [(ab_pa w0 30 a1 1000000000000)])))))) ∧ (¬ ((w0.2 27).2 a1) ≤ r1 → ((0 ≤ a1 ∧ a1 < (w0.2 27).1) ∧ ((0 ≤ a1 ∧ a1 < (w0.2 28).1) ∧ ((0 ≤ a1 ∧ a1 < (w0.2 29).1) ∧ ((0 ≤ a1 ∧ a1 < (w0.2 30).1) ∧ ((0 ≤ a1 ∧ a1 < (w0.2 30).1) ∧ ((-9223372036854775808 ≤ ((ab_ui (w0.2 30).2 a1 0) a1) + 1000000000000 ∧ ((ab_ui (w0.2 30).2 a1 0) a1) + 1000000000000 ≤ 9223372036854775807) ∧ (((ab_cmp (((ab_ui (w0.2 30).2 a1 0) a1) + 1000000000000) 1000000000000) ≤ 0 → ((0 ≤ a1 ∧ a1 < (w0.2 30).1) ∧ ((-9223372036854775808 ≤ ((ab_ui (w0.2 30).2 a1 0) a1) + 1000000000000 ∧ ((ab_ui (w0.2 30).2 a1 0) a1) + 1000000000000 ≤ 9223372036854775807) ∧ ((0 ≤ a1 ∧ a1 < (w0.2 30).1) ∧ Post none [(ab_pa (ab_pa (ab_pa (ab_pa (ab_pa w0 27 a1 r1) 28 a1 a5) 29 a1 a6) 30 a1 0) 30 a1 (((ab_ui (w0.2 30).2 a1 0) a1) + 1000000000000))])))) ∧ (¬ (ab_cmp (((ab_ui (w0.2 30).2 a1 0) a1) + 1000000000000) 1000000000000) ≤ 0 → ((0 ≤ a1 ∧ a1 < (w0.2 30).1) ∧ Post none [(ab_pa (ab_pa (ab_pa (ab_pa (ab_pa w0 27 a1 r1) 28 a1 a5) 29 a1 a6) 30 a1 0) 30 a1 1000000000000)])))))))))))))))))))))))))) ∧ (¬ r1 ≤ ((w0.2 27).2 a1) → Post none [w0]))))) :
    ab_J x 0 [some (ab_O 0), some (ab_I a1), some (ab_I a2), some (ab_I a3), some (ab_I a4), some (ab_I a5), some (ab_I a6), none, none, none, none, none, none, none] [] [w0] kc ks := ab_go hx kX9_tries.2 101 [] 0 h
def mX9_laysOne : ab_M := ((yX9_laysOne, cX9_laysOne, 9, none), ([9], [(0, 0)], [true], false, false, 0), (false, 9, 3))
def rX9_laysOne : List ab_R := [(0, .iload_n 1, 1, 0, 0, 0, [], none),
  (1, .iload_n 2, 1, 0, 0, 0, [], none),
  (2, .iload_n 3, 1, 0, 0, 0, [], none),
  (3, .invokestatic 289, 3, 0, 0, 0, [], some mX9_cube),
  (6, .istore 4, 2, 0, 0, 0, [], none),
  (8, .aload_n 0, 1, 0, 0, 0, [], none),
  (9, .getfield 33, 3, 9, 27, 0, [], none),
  (12, .iload 4, 2, 0, 0, 0, [], none),
  (14, .iload_n 1, 1, 0, 0, 0, [], none),
  (15, .iload_n 2, 1, 0, 0, 0, [], none),
  (16, .if_icmp .ne 7, 3, 0, 0, 0, [23], none),
  (19, .iconst 0, 1, 0, 0, 0, [], none),
  (20, .goto 6, 3, 0, 0, 0, [26], none),
  (23, .ldc_w 293, 3, 0, 1000000000, 0, [], none),
  (26, .iastore, 1, 0, 0, 0, [], none),
  (27, .aload_n 0, 1, 0, 0, 0, [], none),
  (28, .getfield 36, 3, 9, 28, 0, [], none),
  (31, .iload 4, 2, 0, 0, 0, [], none),
  (33, .bipush (-2), 2, 0, 0, 0, [], none),
  (35, .iastore, 1, 0, 0, 0, [], none),
  (36, .aload_n 0, 1, 0, 0, 0, [], none),
  (37, .getfield 39, 3, 9, 29, 0, [], none),
  (40, .iload 4, 2, 0, 0, 0, [], none),
  (42, .bipush (-2), 2, 0, 0, 0, [], none),
  (44, .iastore, 1, 0, 0, 0, [], none),
  (45, .aload_n 0, 1, 0, 0, 0, [], none),
  (46, .getfield 42, 3, 9, 30, 0, [], none),
  (49, .iload 4, 2, 0, 0, 0, [], none),
  (51, .iload_n 1, 1, 0, 0, 0, [], none),
  (52, .iload_n 2, 1, 0, 0, 0, [], none),
  (53, .if_icmp .ne 7, 3, 0, 0, 0, [60], none),
  (56, .lconst 1, 1, 0, 0, 0, [], none),
  (57, .goto 4, 3, 0, 0, 0, [61], none),
  (60, .lconst 0, 1, 0, 0, 0, [], none),
  (61, .lastore, 1, 0, 0, 0, [], none),
  (62, .iload_n 1, 1, 0, 0, 0, [], none),
  (63, .istore 5, 2, 0, 0, 0, [], none),
  (65, .iload 5, 2, 0, 0, 0, [], none),
  (67, .iload_n 2, 1, 0, 0, 0, [], none),
  (68, .if_icmp .ge 69, 3, 0, 0, 0, [137], none),
  (71, .iload_n 3, 1, 0, 0, 0, [], none),
  (72, .iload 5, 2, 0, 0, 0, [], none),
  (74, .if_icmp .gt 10, 3, 0, 0, 0, [84], none),
  (77, .iload 5, 2, 0, 0, 0, [], none),
  (79, .iconst 1, 1, 0, 0, 0, [], none),
  (80, .iadd, 1, 0, 0, 0, [], none),
  (81, .goto 4, 3, 0, 0, 0, [85], none),
  (84, .iload_n 1, 1, 0, 0, 0, [], none),
  (85, .istore 6, 2, 0, 0, 0, [], none),
  (87, .iload_n 3, 1, 0, 0, 0, [], none),
  (88, .iload 5, 2, 0, 0, 0, [], none),
  (90, .if_icmp .gt 7, 3, 0, 0, 0, [97], none),
  (93, .iload_n 2, 1, 0, 0, 0, [], none),
  (94, .goto 5, 3, 0, 0, 0, [99], none),
  (97, .iload 5, 2, 0, 0, 0, [], none),
  (99, .istore 7, 2, 0, 0, 0, [], none),
  (101, .iload 6, 2, 0, 0, 0, [], none),
  (103, .istore 8, 2, 0, 0, 0, [], none),
  (105, .iload 8, 2, 0, 0, 0, [], none),
  (107, .iload 7, 2, 0, 0, 0, [], none),
  (109, .if_icmp .gt 22, 3, 0, 0, 0, [131], none),
  (112, .aload_n 0, 1, 0, 0, 0, [], none),
  (113, .iload 4, 2, 0, 0, 0, [], none),
  (115, .iload_n 1, 1, 0, 0, 0, [], none),
  (116, .iload_n 2, 1, 0, 0, 0, [], none),
  (117, .iload_n 3, 1, 0, 0, 0, [], none),
  (118, .iload 5, 2, 0, 0, 0, [], none),
  (120, .iload 8, 2, 0, 0, 0, [], none),
  (122, .invokevirtual 294, 3, 0, 0, 0, [], some mX9_tries),
  (125, .iinc 8 1, 3, 0, 0, 0, [], none),
  (128, .goto (-23), 3, 0, 0, 0, [105], none),
  (131, .iinc 5 1, 3, 0, 0, 0, [], none),
  (134, .goto (-69), 3, 0, 0, 0, [65], none),
  (137, .return_, 1, 0, 0, 0, [], none)]
set_option maxRecDepth 100000 in
theorem kX9_laysOne : ab_def_ok mX9_laysOne rX9_laysOne := ⟨ab_mok_of 1479 110 1478 68 (by decide +kernel), [0, 0, 0, 1480, 0, 0, 1229, 0, 0, 0, 0, 0, 0, 1483, 0, 0, 1230, 0, 0, 0, 0, 1231, 0, 0, 0, 0, 1232, 0, 0, 0, 0, 0, 0, 0, 0, 0, 0, 0, 0, 0, 0, 0, 0, 0, 0, 0, 0, 0, 0, 0, 0, 0, 0, 0, 0, 0, 0, 0, 0, 0, 0, 0, 0, 0, 0, 0, 0, 0, 1484, 0, 0, 0, 0, 0], by decide +kernel⟩
set_option maxRecDepth 100000 in
theorem vX9_laysOne_0 {x : ab_Cx} {d mc ms : Nat} {Post : Option ab_V → List ab_Ob → Prop} (hx : ab_At x mX9_laysOne d mc ms Post) (a1 a2 a3 : Int) (w0 : ab_Ob) (kc ks : Nat)
    (h : (∃ r1 : Int, ab_Calls d 0 0 mX9_cube [ab_I a1, ab_I a2, ab_I a3] [] (some (ab_I r1)) [] ∧ ((¬ a1 = a2 → ((0 ≤ r1 ∧ r1 < (w0.2 27).1) ∧ ((0 ≤ r1 ∧ r1 < (w0.2 28).1) ∧ ((0 ≤ r1 ∧ r1 < (w0.2 29).1) ∧ ((¬ a1 = a2 → ((0 ≤ r1 ∧ r1 < (w0.2 30).1) ∧ ab_J x 65 [some (ab_O 0), some (ab_I a1), some (ab_I a2), some (ab_I a3), some (ab_I r1), some (ab_I a1), none, none, none] [] [(ab_pa (ab_pa (ab_pa (ab_pa w0 27 r1 1000000000) 28 r1 (-2)) 29 r1 (-2)) 30 r1 0)] kc ks)) ∧ (a1 = a2 → ((0 ≤ r1 ∧ r1 < (w0.2 30).1) ∧ ab_J x 65 [some (ab_O 0), some (ab_I a1), some (ab_I a2), some (ab_I a3), some (ab_I r1), some (ab_I a1), none, none, none] [] [(ab_pa (ab_pa (ab_pa (ab_pa w0 27 r1 1000000000) 28 r1 (-2)) 29 r1 (-2)) 30 r1 1)] kc ks))))))) ∧ (a1 = a2 → ((0 ≤ r1 ∧ r1 < (w0.2 27).1) ∧ ((0 ≤ r1 ∧ r1 < (w0.2 28).1) ∧ ((0 ≤ r1 ∧ r1 < (w0.2 29).1) ∧ ((¬ a1 = a2 → ((0 ≤ r1 ∧ r1 < (w0.2 30).1) ∧ ab_J x 65 [some (ab_O 0), some (ab_I a1), some (ab_I a2), some (ab_I a3), some (ab_I r1), some (ab_I a1), none, none, none] [] [(ab_pa (ab_pa (ab_pa (ab_pa w0 27 r1 0) 28 r1 (-2)) 29 r1 (-2)) 30 r1 0)] kc ks)) ∧ (a1 = a2 → ((0 ≤ r1 ∧ r1 < (w0.2 30).1) ∧ ab_J x 65 [some (ab_O 0), some (ab_I a1), some (ab_I a2), some (ab_I a3), some (ab_I r1), some (ab_I a1), none, none, none] [] [(ab_pa (ab_pa (ab_pa (ab_pa w0 27 r1 0) 28 r1 (-2)) 29 r1 (-2)) 30 r1 1)] kc ks)))))))))) :
    ab_J x 0 [some (ab_O 0), some (ab_I a1), some (ab_I a2), some (ab_I a3), none, none, none, none, none] [] [w0] kc ks := ab_go hx kX9_laysOne.2 40 [(65, [true, true, true, true, true, true, false, false, false]), (105, [true, true, true, true, true, true, false, true, true])] 0 h
set_option maxRecDepth 100000 in
theorem vX9_laysOne_65 {x : ab_Cx} {d mc ms : Nat} {Post : Option ab_V → List ab_Ob → Prop} (hx : ab_At x mX9_laysOne d mc ms Post) (l1 l2 l3 l4 l5 : Int) (w0 : ab_Ob) (kc ks : Nat)
    (h : ((l2 ≤ l5 → Post none [w0]) ∧ (¬ l2 ≤ l5 → ((l5 < l3 → ((l5 < l3 → ab_J x 105 [some (ab_O 0), some (ab_I l1), some (ab_I l2), some (ab_I l3), some (ab_I l4), some (ab_I l5), none, some (ab_I l5), some (ab_I l1)] [] [w0] kc ks) ∧ (¬ l5 < l3 → ab_J x 105 [some (ab_O 0), some (ab_I l1), some (ab_I l2), some (ab_I l3), some (ab_I l4), some (ab_I l5), none, some (ab_I l2), some (ab_I l1)] [] [w0] kc ks))) ∧ (¬ l5 < l3 → ((-2147483648 ≤ l5 + 1 ∧ l5 + 1 ≤ 2147483647) ∧ ((l5 < l3 → ab_J x 105 [some (ab_O 0), some (ab_I l1), some (ab_I l2), some (ab_I l3), some (ab_I l4), some (ab_I l5), none, some (ab_I l5), some (ab_I (l5 + 1))] [] [w0] kc ks) ∧ (¬ l5 < l3 → ab_J x 105 [some (ab_O 0), some (ab_I l1), some (ab_I l2), some (ab_I l3), some (ab_I l4), some (ab_I l5), none, some (ab_I l2), some (ab_I (l5 + 1))] [] [w0] kc ks)))))))) :
    ab_J x 65 [some (ab_O 0), some (ab_I l1), some (ab_I l2), some (ab_I l3), some (ab_I l4), some (ab_I l5), none, none, none] [] [w0] kc ks := ab_go hx kX9_laysOne.2 24 [(65, [true, true, true, true, true, true, false, false, false]), (105, [true, true, true, true, true, true, false, true, true])] 65 h
set_option maxRecDepth 100000 in
theorem vX9_laysOne_105 {x : ab_Cx} {d mc ms : Nat} {Post : Option ab_V → List ab_Ob → Prop} (hx : ab_At x mX9_laysOne d mc ms Post) (l1 l2 l3 l4 l5 l7 l8 : Int) (w0 : ab_Ob) (kc ks : Nat)
    (h : ((l7 < l8 → ((-2147483648 ≤ l5 + 1 ∧ l5 + 1 ≤ 2147483647) ∧ ab_J x 65 [some (ab_O 0), some (ab_I l1), some (ab_I l2), some (ab_I l3), some (ab_I l4), some (ab_I (l5 + 1)), none, none, none] [] [w0] kc ks)) ∧ (¬ l7 < l8 → (∃ v1 : ab_Ob, ab_Calls d 0 0 mX9_tries [ab_O 0, ab_I l4, ab_I l1, ab_I l2, ab_I l3, ab_I l5, ab_I l8] [w0] none [v1] ∧ ((-2147483648 ≤ l8 + 1 ∧ l8 + 1 ≤ 2147483647) ∧ ab_J x 105 [some (ab_O 0), some (ab_I l1), some (ab_I l2), some (ab_I l3), some (ab_I l4), some (ab_I l5), none, some (ab_I l7), some (ab_I (l8 + 1))] [] [v1] kc ks))))) :
    ab_J x 105 [some (ab_O 0), some (ab_I l1), some (ab_I l2), some (ab_I l3), some (ab_I l4), some (ab_I l5), none, some (ab_I l7), some (ab_I l8)] [] [w0] kc ks := ab_go hx kX9_laysOne.2 18 [(65, [true, true, true, true, true, true, false, false, false]), (105, [true, true, true, true, true, true, false, true, true])] 105 h
def mX9_headOf : ab_M := ((yX9_headOf, cX9_headOf, 5, (some .int)), ([9], [(0, 0)], [false], false, false, 0), (false, 9, 2))
def rX9_headOf : List ab_R := [(0, .iload_n 1, 1, 0, 0, 0, [], none),
  (1, .istore_n 3, 1, 0, 0, 0, [], none),
  (2, .iload_n 1, 1, 0, 0, 0, [], none),
  (3, .iconst 1, 1, 0, 0, 0, [], none),
  (4, .iadd, 1, 0, 0, 0, [], none),
  (5, .istore 4, 2, 0, 0, 0, [], none),
  (7, .iload 4, 2, 0, 0, 0, [], none),
  (9, .iload_n 2, 1, 0, 0, 0, [], none),
  (10, .if_icmp .gt 38, 3, 0, 0, 0, [48], none),
  (13, .aload_n 0, 1, 0, 0, 0, [], none),
  (14, .getfield 33, 3, 9, 27, 0, [], none),
  (17, .iload_n 1, 1, 0, 0, 0, [], none),
  (18, .iload_n 2, 1, 0, 0, 0, [], none),
  (19, .iload 4, 2, 0, 0, 0, [], none),
  (21, .invokestatic 289, 3, 0, 0, 0, [], some mX9_cube),
  (24, .iaload, 1, 0, 0, 0, [], none),
  (25, .aload_n 0, 1, 0, 0, 0, [], none),
  (26, .getfield 33, 3, 9, 27, 0, [], none),
  (29, .iload_n 1, 1, 0, 0, 0, [], none),
  (30, .iload_n 2, 1, 0, 0, 0, [], none),
  (31, .iload_n 3, 1, 0, 0, 0, [], none),
  (32, .invokestatic 289, 3, 0, 0, 0, [], some mX9_cube),
  (35, .iaload, 1, 0, 0, 0, [], none),
  (36, .if_icmp .ge 6, 3, 0, 0, 0, [42], none),
  (39, .iload 4, 2, 0, 0, 0, [], none),
  (41, .istore_n 3, 1, 0, 0, 0, [], none),
  (42, .iinc 4 1, 3, 0, 0, 0, [], none),
  (45, .goto (-38), 3, 0, 0, 0, [7], none),
  (48, .iload_n 3, 1, 0, 0, 0, [], none),
  (49, .ireturn, 1, 0, 0, 0, [], none)]
set_option maxRecDepth 100000 in
theorem kX9_headOf : ab_def_ok mX9_headOf rX9_headOf := ⟨ab_mok_of 1514 110 1513 74 (by decide +kernel), [0, 0, 0, 0, 0, 0, 0, 0, 0, 0, 1229, 0, 0, 0, 1480, 0, 0, 1229, 0, 0, 0, 1480, 0, 0, 0, 0, 0, 0, 0, 0], by decide +kernel⟩
set_option maxRecDepth 100000 in
theorem vX9_headOf_0 {x : ab_Cx} {d mc ms : Nat} {Post : Option ab_V → List ab_Ob → Prop} (hx : ab_At x mX9_headOf d mc ms Post) (a1 a2 : Int) (w0 : ab_Ob) (kc ks : Nat)
    (h : ((-2147483648 ≤ a1 + 1 ∧ a1 + 1 ≤ 2147483647) ∧ ab_J x 7 [some (ab_O 0), some (ab_I a1), some (ab_I a2), some (ab_I a1), some (ab_I (a1 + 1))] [] [w0] kc ks)) :
    ab_J x 0 [some (ab_O 0), some (ab_I a1), some (ab_I a2), none, none] [] [w0] kc ks := ab_go hx kX9_headOf.2 11 [(7, [true, true, true, true, true])] 0 h
set_option maxRecDepth 100000 in
theorem vX9_headOf_7 {x : ab_Cx} {d mc ms : Nat} {Post : Option ab_V → List ab_Ob → Prop} (hx : ab_At x mX9_headOf d mc ms Post) (l1 l2 l3 l4 : Int) (w0 : ab_Ob) (kc ks : Nat)
    (h : ((l2 < l4 → Post (some (ab_I l3)) [w0]) ∧ (¬ l2 < l4 → (∃ r1 : Int, ab_Calls d 0 0 mX9_cube [ab_I l1, ab_I l2, ab_I l4] [] (some (ab_I r1)) [] ∧ ((0 ≤ r1 ∧ r1 < (w0.2 27).1) ∧ (∃ r2 : Int, ab_Calls d 0 0 mX9_cube [ab_I l1, ab_I l2, ab_I l3] [] (some (ab_I r2)) [] ∧ ((0 ≤ r2 ∧ r2 < (w0.2 27).1) ∧ ((((w0.2 27).2 r2) ≤ ((w0.2 27).2 r1) → ((-2147483648 ≤ l4 + 1 ∧ l4 + 1 ≤ 2147483647) ∧ ab_J x 7 [some (ab_O 0), some (ab_I l1), some (ab_I l2), some (ab_I l3), some (ab_I (l4 + 1))] [] [w0] kc ks)) ∧ (¬ ((w0.2 27).2 r2) ≤ ((w0.2 27).2 r1) → ((-2147483648 ≤ l4 + 1 ∧ l4 + 1 ≤ 2147483647) ∧ ab_J x 7 [some (ab_O 0), some (ab_I l1), some (ab_I l2), some (ab_I l4), some (ab_I (l4 + 1))] [] [w0] kc ks)))))))))) :
    ab_J x 7 [some (ab_O 0), some (ab_I l1), some (ab_I l2), some (ab_I l3), some (ab_I l4)] [] [w0] kc ks := ab_go hx kX9_headOf.2 27 [(7, [true, true, true, true, true])] 7 h
def mX9_goes : ab_M := ((yX9_goes, cX9_goes, 5, none), ([9], [(0, 0)], [true], false, false, 0), (false, 9, 4))
def rX9_goes : List ab_R := [(0, .aload_n 0, 1, 0, 0, 0, [], none),
  (1, .getfield 61, 3, 9, 36, 0, [], none),
  (4, .aload_n 0, 1, 0, 0, 0, [], none),
  (5, .getfield 321, 3, 9, 41, 0, [], none),
  (8, .iload_n 1, 1, 0, 0, 0, [], none),
  (9, .iastore, 1, 0, 0, 0, [], none),
  (10, .aload_n 0, 1, 0, 0, 0, [], none),
  (11, .getfield 64, 3, 9, 37, 0, [], none),
  (14, .aload_n 0, 1, 0, 0, 0, [], none),
  (15, .getfield 321, 3, 9, 41, 0, [], none),
  (18, .iload_n 2, 1, 0, 0, 0, [], none),
  (19, .iastore, 1, 0, 0, 0, [], none),
  (20, .aload_n 0, 1, 0, 0, 0, [], none),
  (21, .getfield 67, 3, 9, 38, 0, [], none),
  (24, .aload_n 0, 1, 0, 0, 0, [], none),
  (25, .getfield 321, 3, 9, 41, 0, [], none),
  (28, .iload_n 3, 1, 0, 0, 0, [], none),
  (29, .iastore, 1, 0, 0, 0, [], none),
  (30, .aload_n 0, 1, 0, 0, 0, [], none),
  (31, .getfield 70, 3, 9, 39, 0, [], none),
  (34, .aload_n 0, 1, 0, 0, 0, [], none),
  (35, .getfield 321, 3, 9, 41, 0, [], none),
  (38, .iload 4, 2, 0, 0, 0, [], none),
  (40, .iastore, 1, 0, 0, 0, [], none),
  (41, .aload_n 0, 1, 0, 0, 0, [], none),
  (42, .dup, 1, 0, 0, 0, [], none),
  (43, .getfield 321, 3, 9, 41, 0, [], none),
  (46, .iconst 1, 1, 0, 0, 0, [], none),
  (47, .iadd, 1, 0, 0, 0, [], none),
  (48, .putfield 321, 3, 9, 41, 0, [], none),
  (51, .return_, 1, 0, 0, 0, [], none)]
set_option maxRecDepth 100000 in
theorem kX9_goes : ab_def_ok mX9_goes rX9_goes := ⟨ab_mok_of 1518 110 1517 75 (by decide +kernel), [0, 1238, 0, 1243, 0, 0, 0, 1239, 0, 1243, 0, 0, 0, 1240, 0, 1243, 0, 0, 0, 1241, 0, 1243, 0, 0, 0, 0, 1243, 0, 0, 1243, 0], by decide +kernel⟩
set_option maxRecDepth 100000 in
theorem vX9_goes_0 {x : ab_Cx} {d mc ms : Nat} {Post : Option ab_V → List ab_Ob → Prop} (hx : ab_At x mX9_goes d mc ms Post) (a1 a2 a3 a4 : Int) (w0 : ab_Ob) (kc ks : Nat)
    (h : ((0 ≤ (w0.1 41) ∧ (w0.1 41) < (w0.2 36).1) ∧ ((0 ≤ (w0.1 41) ∧ (w0.1 41) < (w0.2 37).1) ∧ ((0 ≤ (w0.1 41) ∧ (w0.1 41) < (w0.2 38).1) ∧ ((0 ≤ (w0.1 41) ∧ (w0.1 41) < (w0.2 39).1) ∧ ((-2147483648 ≤ (w0.1 41) + 1 ∧ (w0.1 41) + 1 ≤ 2147483647) ∧ Post none [(ab_pf (ab_pa (ab_pa (ab_pa (ab_pa w0 36 (w0.1 41) a1) 37 (w0.1 41) a2) 38 (w0.1 41) a3) 39 (w0.1 41) a4) 41 ((w0.1 41) + 1))])))))) :
    ab_J x 0 [some (ab_O 0), some (ab_I a1), some (ab_I a2), some (ab_I a3), some (ab_I a4)] [] [w0] kc ks := ab_go hx kX9_goes.2 35 [] 0 h
def mX9_laysTree : ab_M := ((yX9_laysTree, cX9_laysTree, 7, none), ([9], [(0, 0)], [true], false, false, 0), (false, 9, 0))
def rX9_laysTree : List ab_R := [(0, .aload_n 0, 1, 0, 0, 0, [], none),
  (1, .iconst 0, 1, 0, 0, 0, [], none),
  (2, .putfield 324, 3, 9, 40, 0, [], none),
  (5, .aload_n 0, 1, 0, 0, 0, [], none),
  (6, .iconst 0, 1, 0, 0, 0, [], none),
  (7, .putfield 321, 3, 9, 41, 0, [], none),
  (10, .iconst 0, 1, 0, 0, 0, [], none),
  (11, .istore_n 1, 1, 0, 0, 0, [], none),
  (12, .iload_n 1, 1, 0, 0, 0, [], none),
  (13, .bipush 24, 2, 0, 0, 0, [], none),
  (15, .if_icmp .ge 17, 3, 0, 0, 0, [32], none),
  (18, .aload_n 0, 1, 0, 0, 0, [], none),
  (19, .getfield 58, 3, 9, 35, 0, [], none),
  (22, .iload_n 1, 1, 0, 0, 0, [], none),
  (23, .bipush 24, 2, 0, 0, 0, [], none),
  (25, .iastore, 1, 0, 0, 0, [], none),
  (26, .iinc 1 1, 3, 0, 0, 0, [], none),
  (29, .goto (-17), 3, 0, 0, 0, [12], none),
  (32, .aload_n 0, 1, 0, 0, 0, [], none),
  (33, .iconst 0, 1, 0, 0, 0, [], none),
  (34, .aload_n 0, 1, 0, 0, 0, [], none),
  (35, .getfield 246, 3, 9, 8, 0, [], none),
  (38, .iconst 1, 1, 0, 0, 0, [], none),
  (39, .isub, 1, 0, 0, 0, [], none),
  (40, .aload_n 0, 1, 0, 0, 0, [], none),
  (41, .iconst 0, 1, 0, 0, 0, [], none),
  (42, .aload_n 0, 1, 0, 0, 0, [], none),
  (43, .getfield 246, 3, 9, 8, 0, [], none),
  (46, .iconst 1, 1, 0, 0, 0, [], none),
  (47, .isub, 1, 0, 0, 0, [], none),
  (48, .invokevirtual 318, 3, 0, 0, 0, [], some mX9_headOf),
  (51, .iconst 0, 1, 0, 0, 0, [], none),
  (52, .invokevirtual 327, 3, 0, 0, 0, [], some mX9_goes),
  (55, .aload_n 0, 1, 0, 0, 0, [], none),
  (56, .getfield 321, 3, 9, 41, 0, [], none),
  (59, .ifCond .le 209, 3, 0, 0, 0, [268], none),
  (62, .aload_n 0, 1, 0, 0, 0, [], none),
  (63, .dup, 1, 0, 0, 0, [], none),
  (64, .getfield 321, 3, 9, 41, 0, [], none),
  (67, .iconst 1, 1, 0, 0, 0, [], none),
  (68, .isub, 1, 0, 0, 0, [], none),
  (69, .putfield 321, 3, 9, 41, 0, [], none),
  (72, .aload_n 0, 1, 0, 0, 0, [], none),
  (73, .getfield 61, 3, 9, 36, 0, [], none),
  (76, .aload_n 0, 1, 0, 0, 0, [], none),
  (77, .getfield 321, 3, 9, 41, 0, [], none),
  (80, .iaload, 1, 0, 0, 0, [], none),
  (81, .istore_n 1, 1, 0, 0, 0, [], none),
  (82, .aload_n 0, 1, 0, 0, 0, [], none),
  (83, .getfield 64, 3, 9, 37, 0, [], none),
  (86, .aload_n 0, 1, 0, 0, 0, [], none),
  (87, .getfield 321, 3, 9, 41, 0, [], none),
  (90, .iaload, 1, 0, 0, 0, [], none),
  (91, .istore_n 2, 1, 0, 0, 0, [], none),
  (92, .aload_n 0, 1, 0, 0, 0, [], none),
  (93, .getfield 67, 3, 9, 38, 0, [], none),
  (96, .aload_n 0, 1, 0, 0, 0, [], none),
  (97, .getfield 321, 3, 9, 41, 0, [], none),
  (100, .iaload, 1, 0, 0, 0, [], none),
  (101, .istore_n 3, 1, 0, 0, 0, [], none),
  (102, .aload_n 0, 1, 0, 0, 0, [], none),
  (103, .getfield 70, 3, 9, 39, 0, [], none),
  (106, .aload_n 0, 1, 0, 0, 0, [], none),
  (107, .getfield 321, 3, 9, 41, 0, [], none),
  (110, .iaload, 1, 0, 0, 0, [], none),
  (111, .istore 4, 2, 0, 0, 0, [], none),
  (113, .aload_n 0, 1, 0, 0, 0, [], none),
  (114, .getfield 46, 3, 9, 31, 0, [], none),
  (117, .aload_n 0, 1, 0, 0, 0, [], none),
  (118, .getfield 324, 3, 9, 40, 0, [], none),
  (121, .iload_n 1, 1, 0, 0, 0, [], none),
  (122, .iastore, 1, 0, 0, 0, [], none),
  (123, .aload_n 0, 1, 0, 0, 0, [], none),
  (124, .getfield 49, 3, 9, 32, 0, [], none),
  (127, .aload_n 0, 1, 0, 0, 0, [], none),
  (128, .getfield 324, 3, 9, 40, 0, [], none),
  (131, .iload_n 2, 1, 0, 0, 0, [], none),
  (132, .iastore, 1, 0, 0, 0, [], none),
  (133, .aload_n 0, 1, 0, 0, 0, [], none),
  (134, .getfield 52, 3, 9, 33, 0, [], none),
  (137, .aload_n 0, 1, 0, 0, 0, [], none),
  (138, .getfield 324, 3, 9, 40, 0, [], none),
  (141, .iload_n 3, 1, 0, 0, 0, [], none),
  (142, .iastore, 1, 0, 0, 0, [], none),
  (143, .aload_n 0, 1, 0, 0, 0, [], none),
  (144, .getfield 55, 3, 9, 34, 0, [], none),
  (147, .aload_n 0, 1, 0, 0, 0, [], none),
  (148, .getfield 324, 3, 9, 40, 0, [], none),
  (151, .iload 4, 2, 0, 0, 0, [], none),
  (153, .iastore, 1, 0, 0, 0, [], none),
  (154, .aload_n 0, 1, 0, 0, 0, [], none),
  (155, .dup, 1, 0, 0, 0, [], none),
  (156, .getfield 324, 3, 9, 40, 0, [], none),
  (159, .iconst 1, 1, 0, 0, 0, [], none),
  (160, .iadd, 1, 0, 0, 0, [], none),
  (161, .putfield 324, 3, 9, 40, 0, [], none),
  (164, .iload 4, 2, 0, 0, 0, [], none),
  (166, .aload_n 0, 1, 0, 0, 0, [], none),
  (167, .getfield 58, 3, 9, 35, 0, [], none),
  (170, .iload_n 3, 1, 0, 0, 0, [], none),
  (171, .iaload, 1, 0, 0, 0, [], none),
  (172, .if_icmp .ge 11, 3, 0, 0, 0, [183], none),
  (175, .aload_n 0, 1, 0, 0, 0, [], none),
  (176, .getfield 58, 3, 9, 35, 0, [], none),
  (179, .iload_n 3, 1, 0, 0, 0, [], none),
  (180, .iload 4, 2, 0, 0, 0, [], none),
  (182, .iastore, 1, 0, 0, 0, [], none),
  (183, .iload_n 1, 1, 0, 0, 0, [], none),
  (184, .iload_n 2, 1, 0, 0, 0, [], none),
  (185, .if_icmp .ne 6, 3, 0, 0, 0, [191], none),
  (188, .goto (-133), 3, 0, 0, 0, [55], none),
  (191, .aload_n 0, 1, 0, 0, 0, [], none),
  (192, .getfield 36, 3, 9, 28, 0, [], none),
  (195, .iload_n 1, 1, 0, 0, 0, [], none),
  (196, .iload_n 2, 1, 0, 0, 0, [], none),
  (197, .iload_n 3, 1, 0, 0, 0, [], none),
  (198, .invokestatic 289, 3, 0, 0, 0, [], some mX9_cube),
  (201, .iaload, 1, 0, 0, 0, [], none),
  (202, .istore 5, 2, 0, 0, 0, [], none),
  (204, .aload_n 0, 1, 0, 0, 0, [], none),
  (205, .getfield 39, 3, 9, 29, 0, [], none),
  (208, .iload_n 1, 1, 0, 0, 0, [], none),
  (209, .iload_n 2, 1, 0, 0, 0, [], none),
  (210, .iload_n 3, 1, 0, 0, 0, [], none),
  (211, .invokestatic 289, 3, 0, 0, 0, [], some mX9_cube),
  (214, .iaload, 1, 0, 0, 0, [], none),
  (215, .istore 6, 2, 0, 0, 0, [], none),
  (217, .aload_n 0, 1, 0, 0, 0, [], none),
  (218, .iload 5, 2, 0, 0, 0, [], none),
  (220, .iconst 1, 1, 0, 0, 0, [], none),
  (221, .iadd, 1, 0, 0, 0, [], none),
  (222, .iload_n 2, 1, 0, 0, 0, [], none),
  (223, .iload_n 3, 1, 0, 0, 0, [], none),
  (224, .iload 5, 2, 0, 0, 0, [], none),
  (226, .if_icmp .gt 8, 3, 0, 0, 0, [234], none),
  (229, .iload 6, 2, 0, 0, 0, [], none),
  (231, .goto 4, 3, 0, 0, 0, [235], none),
  (234, .iload_n 3, 1, 0, 0, 0, [], none),
  (235, .iload 4, 2, 0, 0, 0, [], none),
  (237, .iconst 1, 1, 0, 0, 0, [], none),
  (238, .iadd, 1, 0, 0, 0, [], none),
  (239, .invokevirtual 327, 3, 0, 0, 0, [], some mX9_goes),
  (242, .aload_n 0, 1, 0, 0, 0, [], none),
  (243, .iload_n 1, 1, 0, 0, 0, [], none),
  (244, .iload 5, 2, 0, 0, 0, [], none),
  (246, .iload_n 3, 1, 0, 0, 0, [], none),
  (247, .iload 5, 2, 0, 0, 0, [], none),
  (249, .if_icmp .gt 7, 3, 0, 0, 0, [256], none),
  (252, .iload_n 3, 1, 0, 0, 0, [], none),
  (253, .goto 5, 3, 0, 0, 0, [258], none),
  (256, .iload 6, 2, 0, 0, 0, [], none),
  (258, .iload 4, 2, 0, 0, 0, [], none),
  (260, .iconst 1, 1, 0, 0, 0, [], none),
  (261, .iadd, 1, 0, 0, 0, [], none),
  (262, .invokevirtual 327, 3, 0, 0, 0, [], some mX9_goes),
  (265, .goto (-210), 3, 0, 0, 0, [55], none),
  (268, .return_, 1, 0, 0, 0, [], none)]
set_option maxRecDepth 100000 in
theorem kX9_laysTree : ab_def_ok mX9_laysTree rX9_laysTree := ⟨ab_mok_of 1510 110 1509 73 (by decide +kernel), [0, 0, 1242, 0, 0, 1243, 0, 0, 0, 0, 0, 0, 1237, 0, 0, 0, 0, 0, 0, 0, 0, 1210, 0, 0, 0, 0, 0, 1210, 0, 0, 1511, 0, 1515, 0, 1243, 0, 0, 0, 1243, 0, 0, 1243, 0, 1238, 0, 1243, 0, 0, 0, 1239, 0, 1243, 0, 0, 0, 1240, 0, 1243, 0, 0, 0, 1241, 0, 1243, 0, 0, 0, 1233, 0, 1242, 0, 0, 0, 1234, 0, 1242, 0, 0, 0, 1235, 0, 1242, 0, 0, 0, 1236, 0, 1242, 0, 0, 0, 0, 1242, 0, 0, 1242, 0, 0, 1237, 0, 0, 0, 0, 1237, 0, 0, 0, 0, 0, 0, 0, 0, 1230, 0, 0, 0, 1480, 0, 0, 0, 1231, 0, 0, 0, 1480, 0, 0, 0, 0, 0, 0, 0, 0, 0, 0, 0, 0, 0, 0, 0, 0, 1515, 0, 0, 0, 0, 0, 0, 0, 0, 0, 0, 0, 0, 1515, 0, 0], by decide +kernel⟩
set_option maxRecDepth 100000 in
theorem vX9_laysTree_0 {x : ab_Cx} {d mc ms : Nat} {Post : Option ab_V → List ab_Ob → Prop} (hx : ab_At x mX9_laysTree d mc ms Post) (w0 : ab_Ob) (kc ks : Nat)
    (h : ab_J x 12 [some (ab_O 0), some (ab_I 0), none, none, none, none, none] [] [(ab_pf (ab_pf w0 40 0) 41 0)] kc ks) :
    ab_J x 0 [some (ab_O 0), none, none, none, none, none, none] [] [w0] kc ks := ab_go hx kX9_laysTree.2 13 [(12, [true, true, false, false, false, false, false]), (55, [true, false, false, false, false, false, false])] 0 h
set_option maxRecDepth 100000 in
theorem vX9_laysTree_12 {x : ab_Cx} {d mc ms : Nat} {Post : Option ab_V → List ab_Ob → Prop} (hx : ab_At x mX9_laysTree d mc ms Post) (l1 : Int) (w0 : ab_Ob) (kc ks : Nat)
    (h : ((24 ≤ l1 → ((-2147483648 ≤ (w0.1 8) - 1 ∧ (w0.1 8) - 1 ≤ 2147483647) ∧ ((-2147483648 ≤ (w0.1 8) - 1 ∧ (w0.1 8) - 1 ≤ 2147483647) ∧ (∃ r1 : Int, ab_Calls d 0 0 mX9_headOf [ab_O 0, ab_I 0, ab_I ((w0.1 8) - 1)] [w0] (some (ab_I r1)) [w0] ∧ (∃ v2 : ab_Ob, ab_Calls d 0 0 mX9_goes [ab_O 0, ab_I 0, ab_I ((w0.1 8) - 1), ab_I r1, ab_I 0] [w0] none [v2] ∧ ab_J x 55 [some (ab_O 0), none, none, none, none, none, none] [] [v2] kc ks))))) ∧ (¬ 24 ≤ l1 → ((0 ≤ l1 ∧ l1 < (w0.2 35).1) ∧ ((-2147483648 ≤ l1 + 1 ∧ l1 + 1 ≤ 2147483647) ∧ ab_J x 12 [some (ab_O 0), some (ab_I (l1 + 1)), none, none, none, none, none] [] [(ab_pa w0 35 l1 24)] kc ks))))) :
    ab_J x 12 [some (ab_O 0), some (ab_I l1), none, none, none, none, none] [] [w0] kc ks := ab_go hx kX9_laysTree.2 23 [(12, [true, true, false, false, false, false, false]), (55, [true, false, false, false, false, false, false])] 12 h
set_option maxRecDepth 100000 in
theorem vX9_laysTree_55 {x : ab_Cx} {d mc ms : Nat} {Post : Option ab_V → List ab_Ob → Prop} (hx : ab_At x mX9_laysTree d mc ms Post) (w0 : ab_Ob) (kc ks : Nat)
    (h : (((w0.1 41) ≤ 0 → Post none [w0]) ∧ (¬ (w0.1 41) ≤ 0 → ((-2147483648 ≤ (w0.1 41) - 1 ∧ (w0.1 41) - 1 ≤ 2147483647) ∧ ((0 ≤ ((w0.1 41) - 1) ∧ ((w0.1 41) - 1) < (w0.2 36).1) ∧ ((0 ≤ ((w0.1 41) - 1) ∧ ((w0.1 41) - 1) < (w0.2 37).1) ∧ ((0 ≤ ((w0.1 41) - 1) ∧ ((w0.1 41) - 1) < (w0.2 38).1) ∧ ((0 ≤ ((w0.1 41) - 1) ∧ ((w0.1 41) - 1) < (w0.2 39).1) ∧ ((0 ≤ (w0.1 40) ∧ (w0.1 40) < (w0.2 31).1) ∧ ((0 ≤ (w0.1 40) ∧ (w0.1 40) < (w0.2 32).1) ∧ ((0 ≤ (w0.1 40) ∧ (w0.1 40) < (w0.2 33).1) ∧ ((0 ≤ (w0.1 40) ∧ (w0.1 40) < (w0.2 34).1) ∧ ((-2147483648 ≤ (w0.1 40) + 1 ∧ (w0.1 40) + 1 ≤ 2147483647) ∧ ((0 ≤ ((w0.2 38).2 ((w0.1 41) - 1)) ∧ ((w0.2 38).2 ((w0.1 41) - 1)) < (w0.2 35).1) ∧ ((((w0.2 35).2 ((w0.2 38).2 ((w0.1 41) - 1))) ≤ ((w0.2 39).2 ((w0.1 41) - 1)) → ((¬ ((w0.2 36).2 ((w0.1 41) - 1)) = ((w0.2 37).2 ((w0.1 41) - 1)) → (∃ r1 : Int, ab_Calls d 0 0 mX9_cube [ab_I ((w0.2 36).2 ((w0.1 41) - 1)), ab_I ((w0.2 37).2 ((w0.1 41) - 1)), ab_I ((w0.2 38).2 ((w0.1 41) - 1))] [] (some (ab_I r1)) [] ∧ ((0 ≤ r1 ∧ r1 < (w0.2 28).1) ∧ (∃ r2 : Int, ab_Calls d 0 0 mX9_cube [ab_I ((w0.2 36).2 ((w0.1 41) - 1)), ab_I ((w0.2 37).2 ((w0.1 41) - 1)), ab_I ((w0.2 38).2 ((w0.1 41) - 1))] [] (some (ab_I r2)) [] ∧ ((0 ≤ r2 ∧ r2 < (w0.2 29).1) ∧ ((-2147483648 ≤ ((w0.2 28).2 r1) + 1 ∧ ((w0.2 28).2 r1) + 1 ≤ 2147483647) ∧ ((((w0.2 28).2 r1) < ((w0.2 38).2 ((w0.1 41) - 1)) → ((-2147483648 ≤ ((w0.2 39).2 ((w0.1 41) - 1)) + 1 ∧ ((w0.2 39).2 ((w0.1 41) - 1)) + 1 ≤ 2147483647) ∧ (∃ v3 : ab_Ob, ab_Calls d 0 0 mX9_goes [ab_O 0, ab_I (((w0.2 28).2 r1) + 1), ab_I ((w0.2 37).2 ((w0.1 41) - 1)), ab_I ((w0.2 38).2 ((w0.1 41) - 1)), ab_I (((w0.2 39).2 ((w0.1 41) - 1)) + 1)] [(ab_pf (ab_pa (ab_pa (ab_pa (ab_pa (ab_pf w0 41 ((w0.1 41) - 1)) 31 (w0.1 40) ((w0.2 36).2 ((w0.1 41) - 1))) 32 (w0.1 40) ((w0.2 37).2 ((w0.1 41) - 1))) 33 (w0.1 40) ((w0.2 38).2 ((w0.1 41) - 1))) 34 (w0.1 40) ((w0.2 39).2 ((w0.1 41) - 1))) 40 ((w0.1 40) + 1))] none [v3] ∧ ((((w0.2 28).2 r1) < ((w0.2 38).2 ((w0.1 41) - 1)) → ((-2147483648 ≤ ((w0.2 39).2 ((w0.1 41) - 1)) + 1 ∧ ((w0.2 39).2 ((w0.1 41) - 1)) + 1 ≤ 2147483647) ∧ (∃ v4 : ab_Ob, ab_Calls d 0 0 mX9_goes [ab_O 0, ab_I ((w0.2 36).2 ((w0.1 41) - 1)), ab_I ((w0.2 28).2 r1), ab_I ((w0.2 29).2 r2), ab_I (((w0.2 39).2 ((w0.1 41) - 1)) + 1)] [v3] none [v4] ∧ ab_J x 55 [some (ab_O 0), none, none, none, none, none, none] [] [v4] kc ks))) ∧ (¬ ((w0.2 28).2 r1) < ((w0.2 38).2 ((w0.1 41) - 1)) → ((-2147483648 ≤ ((w0.2 39).2 ((w0.1 41) - 1)) + 1 ∧ ((w0.2 39).2 ((w0.1 41) - 1)) + 1 ≤ 2147483647) ∧ (∃ v5 : ab_Ob, ab_Calls d 0 0 mX9_goes [ab_O 0, ab_I ((w0.2 36).2 ((w0.1 41) - 1)), ab_I ((w0.2 28).2 r1), ab_I ((w0.2 38).2 ((w0.1 41) - 1)), ab_I (((w0.2 39).2 ((w0.1 41) - 1)) + 1)] [v3] none [v5] ∧ ab_J x 55 [some (ab_O 0), none, none, none, none, none, none] [] [v5] kc ks))))))) ∧ (¬ ((w0.2 28).2 r1) < ((w0.2 38).2 ((w0.1 41) - 1)) → ((-2147483648 ≤ ((w0.2 39).2 ((w0.1 41) - 1)) + 1 ∧ ((w0.2 39).2 ((w0.1 41) - 1)) + 1 ≤ 2147483647) ∧ (∃ v6 : ab_Ob, ab_Calls d 0 0 mX9_goes [ab_O 0, ab_I (((w0.2 28).2 r1) + 1), ab_I ((w0.2 37).2 ((w0.1 41) - 1)), ab_I ((w0.2 29).2 r2), ab_I (((w0.2 39).2 ((w0.1 41) - 1)) + 1)] [(ab_pf (ab_pa (ab_pa (ab_pa (ab_pa (ab_pf w0 41 ((w0.1 41) - 1)) 31 (w0.1 40) ((w0.2 36).2 ((w0.1 41) - 1))) 32 (w0.1 40) ((w0.2 37).2 ((w0.1 41) - 1))) 33 (w0.1 40) ((w0.2 38).2 ((w0.1 41) - 1))) 34 (w0.1 40) ((w0.2 39).2 ((w0.1 41) - 1))) 40 ((w0.1 40) + 1))] none [v6] ∧ ((((w0.2 28).2 r1) < ((w0.2 38).2 ((w0.1 41) - 1)) → ((-2147483648 ≤ ((w0.2 39).2 ((w0.1 41) - 1)) + 1 ∧ ((w0.2 39).2 ((w0.1 41) - 1)) + 1 ≤ 2147483647) ∧ (∃ v7 : ab_Ob, ab_Calls d 0 0 mX9_goes [ab_O 0, ab_I ((w0.2 36).2 ((w0.1 41) - 1)), ab_I ((w0.2 28).2 r1), ab_I ((w0.2 29).2 r2), ab_I (((w0.2 39).2 ((w0.1 41) - 1)) + 1)] [v6] none [v7] ∧ ab_J x 55 [some (ab_O 0), none, none, none, none, none, none] [] [v7] kc ks))) ∧ (¬ ((w0.2 28).2 r1) < ((w0.2 38).2 ((w0.1 41) - 1)) → ((-2147483648 ≤ ((w0.2 39).2 ((w0.1 41) - 1)) + 1 ∧ ((w0.2 39).2 ((w0.1 41) - 1)) + 1 ≤ 2147483647) ∧ (∃ v8 : ab_Ob, ab_Calls d 0 0 mX9_goes [ab_O 0, ab_I ((w0.2 36).2 ((w0.1 41) - 1)), ab_I ((w0.2 28).2 r1), ab_I ((w0.2 38).2 ((w0.1 41) - 1)), ab_I (((w0.2 39).2 ((w0.1 41) - 1)) + 1)] [v6] none [v8] ∧ ab_J x 55 [some (ab_O 0), none, none, none, none, none, none] [] [v8] kc ks)))))))))))))) ∧ (((w0.2 36).2 ((w0.1 41) - 1)) = ((w0.2 37).2 ((w0.1 41) - 1)) → ab_J x 55 [some (ab_O 0), none, none, none, none, none, none] [] [(ab_pf (ab_pa (ab_pa (ab_pa (ab_pa (ab_pf w0 41 ((w0.1 41) - 1)) 31 (w0.1 40) ((w0.2 36).2 ((w0.1 41) - 1))) 32 (w0.1 40) ((w0.2 37).2 ((w0.1 41) - 1))) 33 (w0.1 40) ((w0.2 38).2 ((w0.1 41) - 1))) 34 (w0.1 40) ((w0.2 39).2 ((w0.1 41) - 1))) 40 ((w0.1 40) + 1))] kc ks))) ∧ (¬ ((w0.2 35).2 ((w0.2 38).2 ((w0.1 41) - 1))) ≤ ((w0.2 39).2 ((w0.1 41) - 1)) → ((0 ≤ ((w0.2 38).2 ((w0.1 41) - 1)) ∧ ((w0.2 38).2 ((w0.1 41) - 1)) < (w0.2 35).1) ∧ ((¬ ((w0.2 36).2 ((w0.1 41) - 1)) = ((w0.2 37).2 ((w0.1 41) - 1)) → (∃ r9 : Int, ab_Calls d 0 0 mX9_cube [ab_I ((w0.2 36).2 ((w0.1 41) - 1)), ab_I ((w0.2 37).2 ((w0.1 41) - 1)), ab_I ((w0.2 38).2 ((w0.1 41) - 1))] [] (some (ab_I r9)) [] ∧ ((0 ≤ r9 ∧ r9 < (w0.2 28).1) ∧ (∃ r10 : Int, ab_Calls d 0 0 mX9_cube [ab_I ((w0.2 36).2 ((w0.1 41) - 1)), ab_I ((w0.2 37).2 ((w0.1 41) - 1)), ab_I ((w0.2 38).2 ((w0.1 41) - 1))] [] (some (ab_I r10)) [] ∧ ((0 ≤ r10 ∧ r10 < (w0.2 29).1) ∧ ((-2147483648 ≤ ((w0.2 28).2 r9) + 1 ∧ ((w0.2 28).2 r9) + 1 ≤ 2147483647) ∧ ((((w0.2 28).2 r9) < ((w0.2 38).2 ((w0.1 41) - 1)) → ((-2147483648 ≤ ((w0.2 39).2 ((w0.1 41) - 1)) + 1 ∧ ((w0.2 39).2 ((w0.1 41) - 1)) + 1 ≤ 2147483647) ∧ (∃ v11 : ab_Ob, ab_Calls d 0 0 mX9_goes [ab_O 0, ab_I (((w0.2 28).2 r9) + 1), ab_I ((w0.2 37).2 ((w0.1 41) - 1)), ab_I ((w0.2 38).2 ((w0.1 41) - 1)), ab_I (((w0.2 39).2 ((w0.1 41) - 1)) + 1)] [(ab_pa (ab_pf (ab_pa (ab_pa (ab_pa (ab_pa (ab_pf w0 41 ((w0.1 41) - 1)) 31 (w0.1 40) ((w0.2 36).2 ((w0.1 41) - 1))) 32 (w0.1 40) ((w0.2 37).2 ((w0.1 41) - 1))) 33 (w0.1 40) ((w0.2 38).2 ((w0.1 41) - 1))) 34 (w0.1 40) ((w0.2 39).2 ((w0.1 41) - 1))) 40 ((w0.1 40) + 1)) 35 ((w0.2 38).2 ((w0.1 41) - 1)) ((w0.2 39).2 ((w0.1 41) - 1)))] none [v11] ∧ ((((w0.2 28).2 r9) < ((w0.2 38).2 ((w0.1 41) - 1)) → ((-2147483648 ≤ ((w0.2 39).2 ((w0.1 41) - 1)) + 1 ∧ ((w0.2 39).2 ((w0.1 41) - 1)) + 1 ≤ 2147483647) ∧ (∃ v12 : ab_Ob, ab_Calls d 0 0 mX9_goes [ab_O 0, ab_I ((w0.2 36).2 ((w0.1 41) - 1)), ab_I ((w0.2 28).2 r9), ab_I ((w0.2 29).2 r10), ab_I (((w0.2 39).2 ((w0.1 41) - 1)) + 1)] [v11] none [v12] ∧ ab_J x 55 [some (ab_O 0), none, none, none, none, none, none] [] [v12] kc ks))) ∧ (¬ ((w0.2 28).2 r9) < ((w0.2 38).2 ((w0.1 41) - 1)) → ((-2147483648 ≤ ((w0.2 39).2 ((w0.1 41) - 1)) + 1 ∧ ((w0.2 39).2 ((w0.1 41) - 1)) + 1 ≤ 2147483647) ∧ (∃ v13 : ab_Ob, ab_Calls d 0 0 mX9_goes [ab_O 0, ab_I ((w0.2 36).2 ((w0.1 41) - 1)), ab_I ((w0.2 28).2 r9), ab_I ((w0.2 38).2 ((w0.1 41) - 1)), ab_I (((w0.2 39).2 ((w0.1 41) - 1)) + 1)] [v11] none [v13] ∧ ab_J x 55 [some (ab_O 0), none, none, none, none, none, none] [] [v13] kc ks))))))) ∧ (¬ ((w0.2 28).2 r9) < ((w0.2 38).2 ((w0.1 41) - 1)) → ((-2147483648 ≤ ((w0.2 39).2 ((w0.1 41) - 1)) + 1 ∧ ((w0.2 39).2 ((w0.1 41) - 1)) + 1 ≤ 2147483647) ∧ (∃ v14 : ab_Ob, ab_Calls d 0 0 mX9_goes [ab_O 0, ab_I (((w0.2 28).2 r9) + 1), ab_I ((w0.2 37).2 ((w0.1 41) - 1)), ab_I ((w0.2 29).2 r10), ab_I (((w0.2 39).2 ((w0.1 41) - 1)) + 1)] [(ab_pa (ab_pf (ab_pa (ab_pa (ab_pa (ab_pa (ab_pf w0 41 ((w0.1 41) - 1)) 31 (w0.1 40) ((w0.2 36).2 ((w0.1 41) - 1))) 32 (w0.1 40) ((w0.2 37).2 ((w0.1 41) - 1))) 33 (w0.1 40) ((w0.2 38).2 ((w0.1 41) - 1))) 34 (w0.1 40) ((w0.2 39).2 ((w0.1 41) - 1))) 40 ((w0.1 40) + 1)) 35 ((w0.2 38).2 ((w0.1 41) - 1)) ((w0.2 39).2 ((w0.1 41) - 1)))] none [v14] ∧ ((((w0.2 28).2 r9) < ((w0.2 38).2 ((w0.1 41) - 1)) → ((-2147483648 ≤ ((w0.2 39).2 ((w0.1 41) - 1)) + 1 ∧ ((w0.2 39).2 ((w0.1 41) - 1)) + 1 ≤ 2147483647) ∧ (∃ v15 : ab_Ob, ab_Calls d 0 0 mX9_goes [ab_O 0, ab_I ((w0.2 36).2 ((w0.1 41) - 1)), ab_I ((w0.2 28).2 r9), ab_I ((w0.2 29).2 r10), ab_I (((w0.2 39).2 ((w0.1 41) - 1)) + 1)] [v14] none [v15] ∧ ab_J x 55 [some (ab_O 0), none, none, none, none, none, none] [] [v15] kc ks))) ∧ (¬ ((w0.2 28).2 r9) < ((w0.2 38).2 ((w0.1 41) - 1)) → ((-2147483648 ≤ ((w0.2 39).2 ((w0.1 41) - 1)) + 1 ∧ ((w0.2 39).2 ((w0.1 41) - 1)) + 1 ≤ 2147483647) ∧ (∃ v16 : ab_Ob, ab_Calls d 0 0 mX9_goes [ab_O 0, ab_I ((w0.2 36).2 ((w0.1 41) - 1)), ab_I ((w0.2 28).2 r9), ab_I ((w0.2 38).2 ((w0.1 41) - 1)), ab_I (((w0.2 39).2 ((w0.1 41) - 1)) + 1)] [v14] none [v16] ∧ ab_J x 55 [some (ab_O 0), none, none, none, none, none, none] [] [v16] kc ks)))))))))))))) ∧ (((w0.2 36).2 ((w0.1 41) - 1)) = ((w0.2 37).2 ((w0.1 41) - 1)) → ab_J x 55 [some (ab_O 0), none, none, none, none, none, none] [] [(ab_pa (ab_pf (ab_pa (ab_pa (ab_pa (ab_pa (ab_pf w0 41 ((w0.1 41) - 1)) 31 (w0.1 40) ((w0.2 36).2 ((w0.1 41) - 1))) 32 (w0.1 40) ((w0.2 37).2 ((w0.1 41) - 1))) 33 (w0.1 40) ((w0.2 38).2 ((w0.1 41) - 1))) 34 (w0.1 40) ((w0.2 39).2 ((w0.1 41) - 1))) 40 ((w0.1 40) + 1)) 35 ((w0.2 38).2 ((w0.1 41) - 1)) ((w0.2 39).2 ((w0.1 41) - 1)))] kc ks))))))))))))))))))) :
    ab_J x 55 [some (ab_O 0), none, none, none, none, none, none] [] [w0] kc ks := ab_go hx kX9_laysTree.2 125 [(12, [true, true, false, false, false, false, false]), (55, [true, false, false, false, false, false, false])] 55 h
def mX9_lays : ab_M := ((yX9_lays, cX9_lays, 4, none), ([9], [(0, 0)], [true], false, false, 0), (false, 9, 0))
def rX9_lays : List ab_R := [(0, .iconst 0, 1, 0, 0, 0, [], none),
  (1, .istore_n 1, 1, 0, 0, 0, [], none),
  (2, .iload_n 1, 1, 0, 0, 0, [], none),
  (3, .aload_n 0, 1, 0, 0, 0, [], none),
  (4, .getfield 246, 3, 9, 8, 0, [], none),
  (7, .if_icmp .ge 31, 3, 0, 0, 0, [38], none),
  (10, .aload_n 0, 1, 0, 0, 0, [], none),
  (11, .getfield 27, 3, 9, 25, 0, [], none),
  (14, .iload_n 1, 1, 0, 0, 0, [], none),
  (15, .aload_n 0, 1, 0, 0, 0, [], none),
  (16, .iload_n 1, 1, 0, 0, 0, [], none),
  (17, .invokevirtual 277, 3, 0, 0, 0, [], some mX9_strength),
  (20, .iastore, 1, 0, 0, 0, [], none),
  (21, .aload_n 0, 1, 0, 0, 0, [], none),
  (22, .getfield 30, 3, 9, 26, 0, [], none),
  (25, .iload_n 1, 1, 0, 0, 0, [], none),
  (26, .aload_n 0, 1, 0, 0, 0, [], none),
  (27, .iload_n 1, 1, 0, 0, 0, [], none),
  (28, .invokevirtual 280, 3, 0, 0, 0, [], some mX9_stable),
  (31, .iastore, 1, 0, 0, 0, [], none),
  (32, .iinc 1 1, 3, 0, 0, 0, [], none),
  (35, .goto (-33), 3, 0, 0, 0, [2], none),
  (38, .aload_n 0, 1, 0, 0, 0, [], none),
  (39, .getfield 246, 3, 9, 8, 0, [], none),
  (42, .iconst 1, 1, 0, 0, 0, [], none),
  (43, .isub, 1, 0, 0, 0, [], none),
  (44, .istore_n 1, 1, 0, 0, 0, [], none),
  (45, .iload_n 1, 1, 0, 0, 0, [], none),
  (46, .ifCond .lt 45, 3, 0, 0, 0, [91], none),
  (49, .iload_n 1, 1, 0, 0, 0, [], none),
  (50, .istore_n 2, 1, 0, 0, 0, [], none),
  (51, .iload_n 2, 1, 0, 0, 0, [], none),
  (52, .aload_n 0, 1, 0, 0, 0, [], none),
  (53, .getfield 246, 3, 9, 8, 0, [], none),
  (56, .if_icmp .ge 29, 3, 0, 0, 0, [85], none),
  (59, .iload_n 1, 1, 0, 0, 0, [], none),
  (60, .istore_n 3, 1, 0, 0, 0, [], none),
  (61, .iload_n 3, 1, 0, 0, 0, [], none),
  (62, .iload_n 2, 1, 0, 0, 0, [], none),
  (63, .if_icmp .gt 16, 3, 0, 0, 0, [79], none),
  (66, .aload_n 0, 1, 0, 0, 0, [], none),
  (67, .iload_n 1, 1, 0, 0, 0, [], none),
  (68, .iload_n 2, 1, 0, 0, 0, [], none),
  (69, .iload_n 3, 1, 0, 0, 0, [], none),
  (70, .invokevirtual 282, 3, 0, 0, 0, [], some mX9_laysOne),
  (73, .iinc 3 1, 3, 0, 0, 0, [], none),
  (76, .goto (-15), 3, 0, 0, 0, [61], none),
  (79, .iinc 2 1, 3, 0, 0, 0, [], none),
  (82, .goto (-31), 3, 0, 0, 0, [51], none),
  (85, .iinc 1 (-1), 3, 0, 0, 0, [], none),
  (88, .goto (-43), 3, 0, 0, 0, [45], none),
  (91, .aload_n 0, 1, 0, 0, 0, [], none),
  (92, .invokevirtual 286, 3, 0, 0, 0, [], some mX9_laysTree),
  (95, .return_, 1, 0, 0, 0, [], none)]
set_option maxRecDepth 100000 in
theorem kX9_lays : ab_def_ok mX9_lays rX9_lays := ⟨ab_mok_of 1455 110 1454 62 (by decide +kernel), [0, 0, 0, 0, 1210, 0, 0, 1227, 0, 0, 0, 1456, 0, 0, 1228, 0, 0, 0, 1468, 0, 0, 0, 0, 1210, 0, 0, 0, 0, 0, 0, 0, 0, 0, 1210, 0, 0, 0, 0, 0, 0, 0, 0, 0, 0, 1476, 0, 0, 0, 0, 0, 0, 0, 1507, 0], by decide +kernel⟩
set_option maxRecDepth 100000 in
theorem vX9_lays_0 {x : ab_Cx} {d mc ms : Nat} {Post : Option ab_V → List ab_Ob → Prop} (hx : ab_At x mX9_lays d mc ms Post) (w0 : ab_Ob) (kc ks : Nat)
    (h : ab_J x 2 [some (ab_O 0), some (ab_I 0), none, none] [] [w0] kc ks) :
    ab_J x 0 [some (ab_O 0), none, none, none] [] [w0] kc ks := ab_go hx kX9_lays.2 7 [(2, [true, true, false, false]), (45, [true, true, false, false]), (51, [true, true, true, false]), (61, [true, true, true, true])] 0 h
set_option maxRecDepth 100000 in
theorem vX9_lays_2 {x : ab_Cx} {d mc ms : Nat} {Post : Option ab_V → List ab_Ob → Prop} (hx : ab_At x mX9_lays d mc ms Post) (l1 : Int) (w0 : ab_Ob) (kc ks : Nat)
    (h : (((w0.1 8) ≤ l1 → ((-2147483648 ≤ (w0.1 8) - 1 ∧ (w0.1 8) - 1 ≤ 2147483647) ∧ ab_J x 45 [some (ab_O 0), some (ab_I ((w0.1 8) - 1)), none, none] [] [w0] kc ks)) ∧ (¬ (w0.1 8) ≤ l1 → (∃ r1 : Int, ab_Calls d 0 0 mX9_strength [ab_O 0, ab_I l1] [w0] (some (ab_I r1)) [w0] ∧ ((0 ≤ l1 ∧ l1 < (w0.2 25).1) ∧ (∃ r2 : Int, ab_Calls d 0 0 mX9_stable [ab_O 0, ab_I l1] [(ab_pa w0 25 l1 r1)] (some (ab_I r2)) [(ab_pa w0 25 l1 r1)] ∧ ((0 ≤ l1 ∧ l1 < (w0.2 26).1) ∧ ((-2147483648 ≤ l1 + 1 ∧ l1 + 1 ≤ 2147483647) ∧ ab_J x 2 [some (ab_O 0), some (ab_I (l1 + 1)), none, none] [] [(ab_pa (ab_pa w0 25 l1 r1) 26 l1 r2)] kc ks)))))))) :
    ab_J x 2 [some (ab_O 0), some (ab_I l1), none, none] [] [w0] kc ks := ab_go hx kX9_lays.2 25 [(2, [true, true, false, false]), (45, [true, true, false, false]), (51, [true, true, true, false]), (61, [true, true, true, true])] 2 h
set_option maxRecDepth 100000 in
theorem vX9_lays_45 {x : ab_Cx} {d mc ms : Nat} {Post : Option ab_V → List ab_Ob → Prop} (hx : ab_At x mX9_lays d mc ms Post) (l1 : Int) (w0 : ab_Ob) (kc ks : Nat)
    (h : ((l1 < 0 → (∃ v1 : ab_Ob, ab_Calls d 0 0 mX9_laysTree [ab_O 0] [w0] none [v1] ∧ Post none [v1])) ∧ (¬ l1 < 0 → ab_J x 51 [some (ab_O 0), some (ab_I l1), some (ab_I l1), none] [] [w0] kc ks))) :
    ab_J x 45 [some (ab_O 0), some (ab_I l1), none, none] [] [w0] kc ks := ab_go hx kX9_lays.2 9 [(2, [true, true, false, false]), (45, [true, true, false, false]), (51, [true, true, true, false]), (61, [true, true, true, true])] 45 h
set_option maxRecDepth 100000 in
theorem vX9_lays_51 {x : ab_Cx} {d mc ms : Nat} {Post : Option ab_V → List ab_Ob → Prop} (hx : ab_At x mX9_lays d mc ms Post) (l1 l2 : Int) (w0 : ab_Ob) (kc ks : Nat)
    (h : (((w0.1 8) ≤ l2 → ((-2147483648 ≤ l1 + (-1) ∧ l1 + (-1) ≤ 2147483647) ∧ ab_J x 45 [some (ab_O 0), some (ab_I (l1 + (-1))), none, none] [] [w0] kc ks)) ∧ (¬ (w0.1 8) ≤ l2 → ab_J x 61 [some (ab_O 0), some (ab_I l1), some (ab_I l2), some (ab_I l1)] [] [w0] kc ks))) :
    ab_J x 51 [some (ab_O 0), some (ab_I l1), some (ab_I l2), none] [] [w0] kc ks := ab_go hx kX9_lays.2 11 [(2, [true, true, false, false]), (45, [true, true, false, false]), (51, [true, true, true, false]), (61, [true, true, true, true])] 51 h
set_option maxRecDepth 100000 in
theorem vX9_lays_61 {x : ab_Cx} {d mc ms : Nat} {Post : Option ab_V → List ab_Ob → Prop} (hx : ab_At x mX9_lays d mc ms Post) (l1 l2 l3 : Int) (w0 : ab_Ob) (kc ks : Nat)
    (h : ((l2 < l3 → ((-2147483648 ≤ l2 + 1 ∧ l2 + 1 ≤ 2147483647) ∧ ab_J x 51 [some (ab_O 0), some (ab_I l1), some (ab_I (l2 + 1)), none] [] [w0] kc ks)) ∧ (¬ l2 < l3 → (∃ v1 : ab_Ob, ab_Calls d 0 0 mX9_laysOne [ab_O 0, ab_I l1, ab_I l2, ab_I l3] [w0] none [v1] ∧ ((-2147483648 ≤ l3 + 1 ∧ l3 + 1 ≤ 2147483647) ∧ ab_J x 61 [some (ab_O 0), some (ab_I l1), some (ab_I l2), some (ab_I (l3 + 1))] [] [v1] kc ks))))) :
    ab_J x 61 [some (ab_O 0), some (ab_I l1), some (ab_I l2), some (ab_I l3)] [] [w0] kc ks := ab_go hx kX9_lays.2 15 [(2, [true, true, false, false]), (45, [true, true, false, false]), (51, [true, true, true, false]), (61, [true, true, true, true])] 61 h
def mX9_piece : ab_M := ((yX9_piece, cX9_piece, 3, (some .int)), ([9], [(0, 0)], [true], false, false, 0), (false, 9, 1))
def rX9_piece : List ab_R := [(0, .aload_n 0, 1, 0, 0, 0, [], none),
  (1, .iconst 0, 1, 0, 0, 0, [], none),
  (2, .putfield 100, 3, 9, 0, 0, [], none),
  (5, .iload_n 1, 1, 0, 0, 0, [], none),
  (6, .ifCond .lt 11, 3, 0, 0, 0, [17], none),
  (9, .iload_n 1, 1, 0, 0, 0, [], none),
  (10, .aload_n 0, 1, 0, 0, 0, [], none),
  (11, .getfield 226, 3, 9, 17, 0, [], none),
  (14, .if_icmp .le 9, 3, 0, 0, 0, [23], none),
  (17, .aload_n 0, 1, 0, 0, 0, [], none),
  (18, .iconst 2, 1, 0, 0, 0, [], none),
  (19, .invokevirtual 229, 3, 0, 0, 0, [], some mX9_refused),
  (22, .ireturn, 1, 0, 0, 0, [], none),
  (23, .aload_n 0, 1, 0, 0, 0, [], none),
  (24, .iload_n 1, 1, 0, 0, 0, [], none),
  (25, .putfield 106, 3, 9, 18, 0, [], none),
  (28, .aload_n 0, 1, 0, 0, 0, [], none),
  (29, .iconst 0, 1, 0, 0, 0, [], none),
  (30, .putfield 226, 3, 9, 17, 0, [], none),
  (33, .aload_n 0, 1, 0, 0, 0, [], none),
  (34, .iconst 0, 1, 0, 0, 0, [], none),
  (35, .putfield 112, 3, 9, 19, 0, [], none),
  (38, .aload_n 0, 1, 0, 0, 0, [], none),
  (39, .iconst 0, 1, 0, 0, 0, [], none),
  (40, .putfield 109, 3, 9, 23, 0, [], none),
  (43, .aload_n 0, 1, 0, 0, 0, [], none),
  (44, .invokevirtual 232, 3, 0, 0, 0, [], some mX9_readAll),
  (47, .aload_n 0, 1, 0, 0, 0, [], none),
  (48, .getfield 109, 3, 9, 23, 0, [], none),
  (51, .ifCond .le 18, 3, 0, 0, 0, [69], none),
  (54, .aload_n 0, 1, 0, 0, 0, [], none),
  (55, .iconst 4, 1, 0, 0, 0, [], none),
  (56, .putfield 103, 3, 9, 1, 0, [], none),
  (59, .aload_n 0, 1, 0, 0, 0, [], none),
  (60, .aload_n 0, 1, 0, 0, 0, [], none),
  (61, .getfield 119, 3, 9, 21, 0, [], none),
  (64, .putfield 9, 3, 9, 2, 0, [], none),
  (67, .iconst (-1), 1, 0, 0, 0, [], none),
  (68, .ireturn, 1, 0, 0, 0, [], none),
  (69, .aload_n 0, 1, 0, 0, 0, [], none),
  (70, .iconst 1, 1, 0, 0, 0, [], none),
  (71, .putfield 235, 3, 9, 14, 0, [], none),
  (74, .aload_n 0, 1, 0, 0, 0, [], none),
  (75, .iconst 0, 1, 0, 0, 0, [], none),
  (76, .putfield 239, 3, 9, 15, 0, [], none),
  (79, .aload_n 0, 1, 0, 0, 0, [], none),
  (80, .aload_n 0, 1, 0, 0, 0, [], none),
  (81, .getfield 167, 3, 9, 10, 0, [], none),
  (84, .putfield 242, 3, 9, 6, 0, [], none),
  (87, .aload_n 0, 1, 0, 0, 0, [], none),
  (88, .aload_n 0, 1, 0, 0, 0, [], none),
  (89, .getfield 202, 3, 9, 11, 0, [], none),
  (92, .putfield 244, 3, 9, 7, 0, [], none),
  (95, .aload_n 0, 1, 0, 0, 0, [], none),
  (96, .aload_n 0, 1, 0, 0, 0, [], none),
  (97, .getfield 170, 3, 9, 12, 0, [], none),
  (100, .putfield 246, 3, 9, 8, 0, [], none),
  (103, .iconst 0, 1, 0, 0, 0, [], none),
  (104, .istore_n 2, 1, 0, 0, 0, [], none),
  (105, .iload_n 2, 1, 0, 0, 0, [], none),
  (106, .bipush 55, 2, 0, 0, 0, [], none),
  (108, .if_icmp .ge 21, 3, 0, 0, 0, [129], none),
  (111, .aload_n 0, 1, 0, 0, 0, [], none),
  (112, .getfield 13, 3, 9, 3, 0, [], none),
  (115, .iload_n 2, 1, 0, 0, 0, [], none),
  (116, .aload_n 0, 1, 0, 0, 0, [], none),
  (117, .getfield 17, 3, 9, 4, 0, [], none),
  (120, .iload_n 2, 1, 0, 0, 0, [], none),
  (121, .iaload, 1, 0, 0, 0, [], none),
  (122, .iastore, 1, 0, 0, 0, [], none),
  (123, .iinc 2 1, 3, 0, 0, 0, [], none),
  (126, .goto (-21), 3, 0, 0, 0, [105], none),
  (129, .aload_n 0, 1, 0, 0, 0, [], none),
  (130, .iconst 0, 1, 0, 0, 0, [], none),
  (131, .putfield 249, 3, 9, 9, 0, [], none),
  (134, .aload_n 0, 1, 0, 0, 0, [], none),
  (135, .invokevirtual 252, 3, 0, 0, 0, [], some mX9_lays),
  (138, .aload_n 0, 1, 0, 0, 0, [], none),
  (139, .aload_n 0, 1, 0, 0, 0, [], none),
  (140, .getfield 246, 3, 9, 8, 0, [], none),
  (143, .invokevirtual 255, 3, 0, 0, 0, [], some mX9_good),
  (146, .ireturn, 1, 0, 0, 0, [], none)]
set_option maxRecDepth 100000 in
theorem kX9_piece : ab_def_ok mX9_piece rX9_piece := ⟨ab_mok_of 1370 110 1368 1369 (by decide +kernel), [0, 0, 1202, 0, 0, 0, 0, 1219, 0, 0, 0, 1371, 0, 0, 0, 1220, 0, 0, 1219, 0, 0, 1221, 0, 0, 1225, 0, 1375, 0, 1225, 0, 0, 0, 1203, 0, 0, 1223, 1204, 0, 0, 0, 0, 1216, 0, 0, 1217, 0, 0, 1212, 1208, 0, 0, 1213, 1209, 0, 0, 1214, 1210, 0, 0, 0, 0, 0, 0, 1205, 0, 0, 1206, 0, 0, 0, 0, 0, 0, 0, 1211, 0, 1452, 0, 0, 1210, 1519, 0], by decide +kernel⟩
set_option maxRecDepth 100000 in
theorem vX9_piece_0 {x : ab_Cx} {d mc ms : Nat} {Post : Option ab_V → List ab_Ob → Prop} (hx : ab_At x mX9_piece d mc ms Post) (a1 : Int) (w0 : ab_Ob) (kc ks : Nat)
    (h : ((a1 < 0 → (∃ r1 : Int, ∃ v2 : ab_Ob, ab_Calls d 0 0 mX9_refused [ab_O 0, ab_I 2] [(ab_pf w0 0 0)] (some (ab_I r1)) [v2] ∧ Post (some (ab_I r1)) [v2])) ∧ (¬ a1 < 0 → ((a1 ≤ (w0.1 17) → (∃ v3 : ab_Ob, ab_Calls d 0 0 mX9_readAll [ab_O 0] [(ab_pf (ab_pf (ab_pf (ab_pf (ab_pf w0 0 0) 18 a1) 17 0) 19 0) 23 0)] none [v3] ∧ (((v3.1 23) ≤ 0 → (((1 : Int) = 0 ∨ (1 : Int) = 1) ∧ (((0 : Int) = 0 ∨ (0 : Int) = 1) ∧ ab_J x 105 [some (ab_O 0), none, some (ab_I 0)] [] [(ab_pf (ab_pf (ab_pf (ab_pf (ab_pf v3 14 1) 15 0) 6 (v3.1 10)) 7 (v3.1 11)) 8 (v3.1 12))] kc ks))) ∧ (¬ (v3.1 23) ≤ 0 → Post (some (ab_I (-1))) [(ab_pf (ab_pf v3 1 4) 2 (v3.1 21))])))) ∧ (¬ a1 ≤ (w0.1 17) → (∃ r4 : Int, ∃ v5 : ab_Ob, ab_Calls d 0 0 mX9_refused [ab_O 0, ab_I 2] [(ab_pf w0 0 0)] (some (ab_I r4)) [v5] ∧ Post (some (ab_I r4)) [v5])))))) :
    ab_J x 0 [some (ab_O 0), some (ab_I a1), none] [] [w0] kc ks := ab_go hx kX9_piece.2 51 [(105, [true, false, true])] 0 h
set_option maxRecDepth 100000 in
theorem vX9_piece_105 {x : ab_Cx} {d mc ms : Nat} {Post : Option ab_V → List ab_Ob → Prop} (hx : ab_At x mX9_piece d mc ms Post) (l2 : Int) (w0 : ab_Ob) (kc ks : Nat)
    (h : ((55 ≤ l2 → (∃ v1 : ab_Ob, ab_Calls d 0 0 mX9_lays [ab_O 0] [(ab_pf w0 9 0)] none [v1] ∧ (∃ r2 : Int, ∃ v3 : ab_Ob, ab_Calls d 0 0 mX9_good [ab_O 0, ab_I (v1.1 8)] [v1] (some (ab_I r2)) [v3] ∧ Post (some (ab_I r2)) [v3]))) ∧ (¬ 55 ≤ l2 → ((0 ≤ l2 ∧ l2 < (w0.2 4).1) ∧ ((0 ≤ l2 ∧ l2 < (w0.2 3).1) ∧ ((-2147483648 ≤ l2 + 1 ∧ l2 + 1 ≤ 2147483647) ∧ ab_J x 105 [some (ab_O 0), none, some (ab_I (l2 + 1))] [] [(ab_pa w0 3 l2 ((w0.2 4).2 l2))] kc ks)))))) :
    ab_J x 105 [some (ab_O 0), none, some (ab_I l2)] [] [w0] kc ks := ab_go hx kX9_piece.2 18 [(105, [true, false, true])] 105 h
def mX9_fault : ab_M := ((yX9_fault, cX9_fault, 1, (some .int)), ([9], [(0, 0)], [true], false, false, 0), (false, 9, 0))
def rX9_fault : List ab_R := [(0, .aload_n 0, 1, 0, 0, 0, [], none),
  (1, .iconst 0, 1, 0, 0, 0, [], none),
  (2, .putfield 100, 3, 9, 0, 0, [], none),
  (5, .aload_n 0, 1, 0, 0, 0, [], none),
  (6, .getfield 109, 3, 9, 23, 0, [], none),
  (9, .ireturn, 1, 0, 0, 0, [], none)]
set_option maxRecDepth 100000 in
theorem kX9_fault : ab_def_ok mX9_fault rX9_fault := ⟨ab_mok_of 1526 110 1524 1525 (by decide +kernel), [0, 0, 1202, 0, 1225, 0], by decide +kernel⟩
set_option maxRecDepth 100000 in
theorem vX9_fault_0 {x : ab_Cx} {d mc ms : Nat} {Post : Option ab_V → List ab_Ob → Prop} (hx : ab_At x mX9_fault d mc ms Post) (w0 : ab_Ob) (kc ks : Nat)
    (h : Post (some (ab_I (w0.1 23))) [(ab_pf w0 0 0)]) :
    ab_J x 0 [some (ab_O 0)] [] [w0] kc ks := ab_go hx kX9_fault.2 10 [] 0 h
def mX9_where : ab_M := ((yX9_where, cX9_where, 1, (some .int)), ([9], [(0, 0)], [true], false, false, 0), (false, 9, 0))
def rX9_where : List ab_R := [(0, .aload_n 0, 1, 0, 0, 0, [], none),
  (1, .iconst 0, 1, 0, 0, 0, [], none),
  (2, .putfield 100, 3, 9, 0, 0, [], none),
  (5, .aload_n 0, 1, 0, 0, 0, [], none),
  (6, .getfield 9, 3, 9, 2, 0, [], none),
  (9, .ireturn, 1, 0, 0, 0, [], none)]
set_option maxRecDepth 100000 in
theorem kX9_where : ab_def_ok mX9_where rX9_where := ⟨ab_mok_of 1530 110 1528 1529 (by decide +kernel), [0, 0, 1202, 0, 1204, 0], by decide +kernel⟩
set_option maxRecDepth 100000 in
theorem vX9_where_0 {x : ab_Cx} {d mc ms : Nat} {Post : Option ab_V → List ab_Ob → Prop} (hx : ab_At x mX9_where d mc ms Post) (w0 : ab_Ob) (kc ks : Nat)
    (h : Post (some (ab_I (w0.1 2))) [(ab_pf w0 0 0)]) :
    ab_J x 0 [some (ab_O 0)] [] [w0] kc ks := ab_go hx kX9_where.2 10 [] 0 h
def mX9_isNote : ab_M := ((yX9_isNote, cX9_isNote, 2, (some .boolean)), ([9], [(0, 0)], [false], false, false, 0), (false, 9, 1))
def rX9_isNote : List ab_R := [(0, .aload_n 0, 1, 0, 0, 0, [], none),
  (1, .getfield 235, 3, 9, 14, 0, [], none),
  (4, .ifCond .eq 21, 3, 0, 0, 0, [25], none),
  (7, .iload_n 1, 1, 0, 0, 0, [], none),
  (8, .iconst 0, 1, 0, 0, 0, [], none),
  (9, .aload_n 0, 1, 0, 0, 0, [], none),
  (10, .getfield 246, 3, 9, 8, 0, [], none),
  (13, .iconst 1, 1, 0, 0, 0, [], none),
  (14, .isub, 1, 0, 0, 0, [], none),
  (15, .invokestatic 125, 3, 0, 0, 0, [], some mX9_in),
  (18, .ifCond .eq 7, 3, 0, 0, 0, [25], none),
  (21, .iconst 1, 1, 0, 0, 0, [], none),
  (22, .goto 4, 3, 0, 0, 0, [26], none),
  (25, .iconst 0, 1, 0, 0, 0, [], none),
  (26, .ireturn, 1, 0, 0, 0, [], none)]
set_option maxRecDepth 100000 in
theorem kX9_isNote : ab_def_ok mX9_isNote rX9_isNote := ⟨ab_mok_of 1542 110 1541 77 (by decide +kernel), [0, 1216, 0, 0, 0, 0, 1210, 0, 0, 1387, 0, 0, 0, 0, 0], by decide +kernel⟩
set_option maxRecDepth 100000 in
theorem vX9_isNote_0 {x : ab_Cx} {d mc ms : Nat} {Post : Option ab_V → List ab_Ob → Prop} (hx : ab_At x mX9_isNote d mc ms Post) (a1 : Int) (w0 : ab_Ob) (kc ks : Nat)
    (h : (((w0.1 14) = 0 → (((0 : Int) = 0 ∨ (0 : Int) = 1) ∧ Post (some (ab_I 0)) [w0])) ∧ (¬ (w0.1 14) = 0 → ((-2147483648 ≤ (w0.1 8) - 1 ∧ (w0.1 8) - 1 ≤ 2147483647) ∧ (∃ r1 : Int, ab_Calls d 0 0 mX9_in [ab_I a1, ab_I 0, ab_I ((w0.1 8) - 1)] [] (some (ab_I r1)) [] ∧ ((r1 = 0 → (((0 : Int) = 0 ∨ (0 : Int) = 1) ∧ Post (some (ab_I 0)) [w0])) ∧ (¬ r1 = 0 → (((1 : Int) = 0 ∨ (1 : Int) = 1) ∧ Post (some (ab_I 1)) [w0])))))))) :
    ab_J x 0 [some (ab_O 0), some (ab_I a1)] [] [w0] kc ks := ab_go hx kX9_isNote.2 18 [] 0 h
def mX9_isSpan : ab_M := ((yX9_isSpan, cX9_isSpan, 3, (some .boolean)), ([9], [(0, 0)], [false], false, false, 0), (false, 9, 2))
def rX9_isSpan : List ab_R := [(0, .aload_n 0, 1, 0, 0, 0, [], none),
  (1, .iload_n 1, 1, 0, 0, 0, [], none),
  (2, .invokevirtual 307, 3, 0, 0, 0, [], some mX9_isNote),
  (5, .ifCond .eq 20, 3, 0, 0, 0, [25], none),
  (8, .aload_n 0, 1, 0, 0, 0, [], none),
  (9, .iload_n 2, 1, 0, 0, 0, [], none),
  (10, .invokevirtual 307, 3, 0, 0, 0, [], some mX9_isNote),
  (13, .ifCond .eq 12, 3, 0, 0, 0, [25], none),
  (16, .iload_n 1, 1, 0, 0, 0, [], none),
  (17, .iload_n 2, 1, 0, 0, 0, [], none),
  (18, .if_icmp .gt 7, 3, 0, 0, 0, [25], none),
  (21, .iconst 1, 1, 0, 0, 0, [], none),
  (22, .goto 4, 3, 0, 0, 0, [26], none),
  (25, .iconst 0, 1, 0, 0, 0, [], none),
  (26, .ireturn, 1, 0, 0, 0, [], none)]
set_option maxRecDepth 100000 in
theorem kX9_isSpan : ab_def_ok mX9_isSpan rX9_isSpan := ⟨ab_mok_of 1557 110 1556 78 (by decide +kernel), [0, 0, 1539, 0, 0, 0, 1539, 0, 0, 0, 0, 0, 0, 0, 0], by decide +kernel⟩
set_option maxRecDepth 100000 in
theorem vX9_isSpan_0 {x : ab_Cx} {d mc ms : Nat} {Post : Option ab_V → List ab_Ob → Prop} (hx : ab_At x mX9_isSpan d mc ms Post) (a1 a2 : Int) (w0 : ab_Ob) (kc ks : Nat)
    (h : (∃ r1 : Int, ab_Calls d 0 0 mX9_isNote [ab_O 0, ab_I a1] [w0] (some (ab_I r1)) [w0] ∧ ((r1 = 0 → (((0 : Int) = 0 ∨ (0 : Int) = 1) ∧ Post (some (ab_I 0)) [w0])) ∧ (¬ r1 = 0 → (∃ r2 : Int, ab_Calls d 0 0 mX9_isNote [ab_O 0, ab_I a2] [w0] (some (ab_I r2)) [w0] ∧ ((r2 = 0 → (((0 : Int) = 0 ∨ (0 : Int) = 1) ∧ Post (some (ab_I 0)) [w0])) ∧ (¬ r2 = 0 → ((a2 < a1 → (((0 : Int) = 0 ∨ (0 : Int) = 1) ∧ Post (some (ab_I 0)) [w0])) ∧ (¬ a2 < a1 → (((1 : Int) = 0 ∨ (1 : Int) = 1) ∧ Post (some (ab_I 1)) [w0])))))))))) :
    ab_J x 0 [some (ab_O 0), some (ab_I a1), some (ab_I a2)] [] [w0] kc ks := ab_go hx kX9_isSpan.2 18 [] 0 h
def mX9_isRule : ab_M := ((yX9_isRule, cX9_isRule, 1, (some .boolean)), ([], [], [], false, false, 0), (true, 9, 1))
def rX9_isRule : List ab_R := [(0, .iload_n 0, 1, 0, 0, 0, [], none),
  (1, .iconst 0, 1, 0, 0, 0, [], none),
  (2, .iconst 5, 1, 0, 0, 0, [], none),
  (3, .invokestatic 125, 3, 0, 0, 0, [], some mX9_in),
  (6, .ireturn, 1, 0, 0, 0, [], none)]
set_option maxRecDepth 100000 in
theorem kX9_isRule : ab_def_ok mX9_isRule rX9_isRule := ⟨ab_mok_of 1549 110 1548 0 (by decide +kernel), [0, 0, 0, 1387, 0], by decide +kernel⟩
set_option maxRecDepth 100000 in
theorem vX9_isRule_0 {x : ab_Cx} {d mc ms : Nat} {Post : Option ab_V → List ab_Ob → Prop} (hx : ab_At x mX9_isRule d mc ms Post) (a0 : Int) (kc ks : Nat)
    (h : (∃ r1 : Int, ab_Calls d 0 0 mX9_in [ab_I a0, ab_I 0, ab_I 5] [] (some (ab_I r1)) [] ∧ ((r1 = 0 ∨ r1 = 1) ∧ Post (some (ab_I r1)) []))) :
    ab_J x 0 [some (ab_I a0)] [] [] kc ks := ab_go hx kX9_isRule.2 9 [] 0 h
def mX9_about : ab_M := ((yX9_about, cX9_about, 4, (some .int)), ([9], [(0, 0)], [true], false, false, 0), (false, 9, 1))
def rX9_about : List ab_R := [(0, .aload_n 0, 1, 0, 0, 0, [], none),
  (1, .iconst 0, 1, 0, 0, 0, [], none),
  (2, .putfield 100, 3, 9, 0, 0, [], none),
  (5, .aload_n 0, 1, 0, 0, 0, [], none),
  (6, .getfield 235, 3, 9, 14, 0, [], none),
  (9, .ifCond .ne 9, 3, 0, 0, 0, [18], none),
  (12, .aload_n 0, 1, 0, 0, 0, [], none),
  (13, .iconst 1, 1, 0, 0, 0, [], none),
  (14, .invokevirtual 229, 3, 0, 0, 0, [], some mX9_refused),
  (17, .ireturn, 1, 0, 0, 0, [], none),
  (18, .iconst 0, 1, 0, 0, 0, [], none),
  (19, .istore_n 2, 1, 0, 0, 0, [], none),
  (20, .iload_n 1, 1, 0, 0, 0, [], none),
  (21, .tableswitch 131 0 5 #[39, 48, 57, 69, 78, 91], 39, 0, 0, 0, [152, 60, 69, 78, 90, 99, 112], none),
  (60, .aload_n 0, 1, 0, 0, 0, [], none),
  (61, .aload_n 0, 1, 0, 0, 0, [], none),
  (62, .getfield 242, 3, 9, 6, 0, [], none),
  (65, .invokevirtual 255, 3, 0, 0, 0, [], some mX9_good),
  (68, .ireturn, 1, 0, 0, 0, [], none),
  (69, .aload_n 0, 1, 0, 0, 0, [], none),
  (70, .aload_n 0, 1, 0, 0, 0, [], none),
  (71, .getfield 244, 3, 9, 7, 0, [], none),
  (74, .invokevirtual 255, 3, 0, 0, 0, [], some mX9_good),
  (77, .ireturn, 1, 0, 0, 0, [], none),
  (78, .aload_n 0, 1, 0, 0, 0, [], none),
  (79, .aload_n 0, 1, 0, 0, 0, [], none),
  (80, .getfield 13, 3, 9, 3, 0, [], none),
  (83, .bipush 54, 2, 0, 0, 0, [], none),
  (85, .iaload, 1, 0, 0, 0, [], none),
  (86, .invokevirtual 255, 3, 0, 0, 0, [], some mX9_good),
  (89, .ireturn, 1, 0, 0, 0, [], none),
  (90, .aload_n 0, 1, 0, 0, 0, [], none),
  (91, .aload_n 0, 1, 0, 0, 0, [], none),
  (92, .getfield 246, 3, 9, 8, 0, [], none),
  (95, .invokevirtual 255, 3, 0, 0, 0, [], some mX9_good),
  (98, .ireturn, 1, 0, 0, 0, [], none),
  (99, .aload_n 0, 1, 0, 0, 0, [], none),
  (100, .aload_n 0, 1, 0, 0, 0, [], none),
  (101, .aload_n 0, 1, 0, 0, 0, [], none),
  (102, .getfield 246, 3, 9, 8, 0, [], none),
  (105, .invokevirtual 261, 3, 0, 0, 0, [], some mX9_beginOf),
  (108, .invokevirtual 255, 3, 0, 0, 0, [], some mX9_good),
  (111, .ireturn, 1, 0, 0, 0, [], none),
  (112, .iconst 0, 1, 0, 0, 0, [], none),
  (113, .istore_n 3, 1, 0, 0, 0, [], none),
  (114, .iload_n 3, 1, 0, 0, 0, [], none),
  (115, .bipush 6, 2, 0, 0, 0, [], none),
  (117, .if_icmp .ge 29, 3, 0, 0, 0, [146], none),
  (120, .iload_n 2, 1, 0, 0, 0, [], none),
  (121, .aload_n 0, 1, 0, 0, 0, [], none),
  (122, .getfield 13, 3, 9, 3, 0, [], none),
  (125, .bipush 48, 2, 0, 0, 0, [], none),
  (127, .iload_n 3, 1, 0, 0, 0, [], none),
  (128, .iadd, 1, 0, 0, 0, [], none),
  (129, .iaload, 1, 0, 0, 0, [], none),
  (130, .ifCond .le 7, 3, 0, 0, 0, [137], none),
  (133, .iconst 1, 1, 0, 0, 0, [], none),
  (134, .goto 4, 3, 0, 0, 0, [138], none),
  (137, .iconst 0, 1, 0, 0, 0, [], none),
  (138, .iadd, 1, 0, 0, 0, [], none),
  (139, .istore_n 2, 1, 0, 0, 0, [], none),
  (140, .iinc 3 1, 3, 0, 0, 0, [], none),
  (143, .goto (-29), 3, 0, 0, 0, [114], none),
  (146, .aload_n 0, 1, 0, 0, 0, [], none),
  (147, .iload_n 2, 1, 0, 0, 0, [], none),
  (148, .invokevirtual 255, 3, 0, 0, 0, [], some mX9_good),
  (151, .ireturn, 1, 0, 0, 0, [], none),
  (152, .aload_n 0, 1, 0, 0, 0, [], none),
  (153, .iconst 1, 1, 0, 0, 0, [], none),
  (154, .invokevirtual 229, 3, 0, 0, 0, [], some mX9_refused),
  (157, .ireturn, 1, 0, 0, 0, [], none)]
set_option maxRecDepth 100000 in
theorem kX9_about : ab_def_ok mX9_about rX9_about := ⟨ab_mok_of 1534 110 1532 1533 (by decide +kernel), [0, 0, 1202, 0, 1216, 0, 0, 0, 1371, 0, 0, 0, 0, 0, 0, 0, 1208, 1519, 0, 0, 0, 1209, 1519, 0, 0, 0, 1205, 0, 0, 1519, 0, 0, 0, 1210, 1519, 0, 0, 0, 0, 1210, 1460, 1519, 0, 0, 0, 0, 0, 0, 0, 0, 1205, 0, 0, 0, 0, 0, 0, 0, 0, 0, 0, 0, 0, 0, 0, 1519, 0, 0, 0, 1371, 0], by decide +kernel⟩
set_option maxRecDepth 100000 in
theorem vX9_about_0 {x : ab_Cx} {d mc ms : Nat} {Post : Option ab_V → List ab_Ob → Prop} (hx : ab_At x mX9_about d mc ms Post) (a1 : Int) (w0 : ab_Ob) (kc ks : Nat)
    (h : ((¬ (w0.1 14) = 0 → ((a1 < 0 ∨ 5 < a1 → (∃ r12 : Int, ∃ v13 : ab_Ob, ab_Calls d 0 0 mX9_refused [ab_O 0, ab_I 1] [(ab_pf w0 0 0)] (some (ab_I r12)) [v13] ∧ Post (some (ab_I r12)) [v13])) ∧ ((a1 = 0 → (∃ r10 : Int, ∃ v11 : ab_Ob, ab_Calls d 0 0 mX9_good [ab_O 0, ab_I (w0.1 6)] [(ab_pf w0 0 0)] (some (ab_I r10)) [v11] ∧ Post (some (ab_I r10)) [v11])) ∧ ((a1 = 1 → (∃ r8 : Int, ∃ v9 : ab_Ob, ab_Calls d 0 0 mX9_good [ab_O 0, ab_I (w0.1 7)] [(ab_pf w0 0 0)] (some (ab_I r8)) [v9] ∧ Post (some (ab_I r8)) [v9])) ∧ ((a1 = 2 → ((0 ≤ (54 : Int) ∧ (54 : Int) < (w0.2 3).1) ∧ (∃ r6 : Int, ∃ v7 : ab_Ob, ab_Calls d 0 0 mX9_good [ab_O 0, ab_I ((w0.2 3).2 54)] [(ab_pf w0 0 0)] (some (ab_I r6)) [v7] ∧ Post (some (ab_I r6)) [v7]))) ∧ ((a1 = 3 → (∃ r4 : Int, ∃ v5 : ab_Ob, ab_Calls d 0 0 mX9_good [ab_O 0, ab_I (w0.1 8)] [(ab_pf w0 0 0)] (some (ab_I r4)) [v5] ∧ Post (some (ab_I r4)) [v5])) ∧ ((a1 = 4 → (∃ r1 : Int, ab_Calls d 0 0 mX9_beginOf [ab_O 0, ab_I (w0.1 8)] [(ab_pf w0 0 0)] (some (ab_I r1)) [(ab_pf w0 0 0)] ∧ (∃ r2 : Int, ∃ v3 : ab_Ob, ab_Calls d 0 0 mX9_good [ab_O 0, ab_I r1] [(ab_pf w0 0 0)] (some (ab_I r2)) [v3] ∧ Post (some (ab_I r2)) [v3]))) ∧ ((a1 = 5 → ab_J x 114 [some (ab_O 0), none, some (ab_I 0), some (ab_I 0)] [] [(ab_pf w0 0 0)] kc ks) ∧ True)))))))) ∧ ((w0.1 14) = 0 → (∃ r14 : Int, ∃ v15 : ab_Ob, ab_Calls d 0 0 mX9_refused [ab_O 0, ab_I 1] [(ab_pf w0 0 0)] (some (ab_I r14)) [v15] ∧ Post (some (ab_I r14)) [v15])))) :
    ab_J x 0 [some (ab_O 0), some (ab_I a1), none, none] [] [w0] kc ks := ab_go hx kX9_about.2 21 [(114, [true, false, true, true])] 0 h
set_option maxRecDepth 100000 in
theorem vX9_about_114 {x : ab_Cx} {d mc ms : Nat} {Post : Option ab_V → List ab_Ob → Prop} (hx : ab_At x mX9_about d mc ms Post) (l2 l3 : Int) (w0 : ab_Ob) (kc ks : Nat)
    (h : ((6 ≤ l3 → (∃ r1 : Int, ∃ v2 : ab_Ob, ab_Calls d 0 0 mX9_good [ab_O 0, ab_I l2] [w0] (some (ab_I r1)) [v2] ∧ Post (some (ab_I r1)) [v2])) ∧ (¬ 6 ≤ l3 → ((-2147483648 ≤ 48 + l3 ∧ 48 + l3 ≤ 2147483647) ∧ ((0 ≤ (48 + l3) ∧ (48 + l3) < (w0.2 3).1) ∧ ((((w0.2 3).2 (48 + l3)) ≤ 0 → ((-2147483648 ≤ l2 + 0 ∧ l2 + 0 ≤ 2147483647) ∧ ((-2147483648 ≤ l3 + 1 ∧ l3 + 1 ≤ 2147483647) ∧ ab_J x 114 [some (ab_O 0), none, some (ab_I (l2 + 0)), some (ab_I (l3 + 1))] [] [w0] kc ks))) ∧ (¬ ((w0.2 3).2 (48 + l3)) ≤ 0 → ((-2147483648 ≤ l2 + 1 ∧ l2 + 1 ≤ 2147483647) ∧ ((-2147483648 ≤ l3 + 1 ∧ l3 + 1 ≤ 2147483647) ∧ ab_J x 114 [some (ab_O 0), none, some (ab_I (l2 + 1)), some (ab_I (l3 + 1))] [] [w0] kc ks))))))))) :
    ab_J x 114 [some (ab_O 0), none, some (ab_I l2), some (ab_I l3)] [] [w0] kc ks := ab_go hx kX9_about.2 22 [(114, [true, false, true, true])] 114 h
def mX9_note : ab_M := ((yX9_note, cX9_note, 3, (some .int)), ([9], [(0, 0)], [true], false, false, 0), (false, 9, 2))
def rX9_note : List ab_R := [(0, .aload_n 0, 1, 0, 0, 0, [], none),
  (1, .iconst 0, 1, 0, 0, 0, [], none),
  (2, .putfield 100, 3, 9, 0, 0, [], none),
  (5, .aload_n 0, 1, 0, 0, 0, [], none),
  (6, .iload_n 1, 1, 0, 0, 0, [], none),
  (7, .invokevirtual 307, 3, 0, 0, 0, [], some mX9_isNote),
  (10, .ifCond .ne 9, 3, 0, 0, 0, [19], none),
  (13, .aload_n 0, 1, 0, 0, 0, [], none),
  (14, .iconst 1, 1, 0, 0, 0, [], none),
  (15, .invokevirtual 229, 3, 0, 0, 0, [], some mX9_refused),
  (18, .ireturn, 1, 0, 0, 0, [], none),
  (19, .iload_n 2, 1, 0, 0, 0, [], none),
  (20, .tableswitch 103 0 5 #[40, 50, 60, 70, 81, 92], 40, 0, 0, 0, [123, 60, 70, 80, 90, 101, 112], none),
  (60, .aload_n 0, 1, 0, 0, 0, [], none),
  (61, .aload_n 0, 1, 0, 0, 0, [], none),
  (62, .iload_n 1, 1, 0, 0, 0, [], none),
  (63, .invokevirtual 264, 3, 0, 0, 0, [], some mX9_pitchOf),
  (66, .invokevirtual 255, 3, 0, 0, 0, [], some mX9_good),
  (69, .ireturn, 1, 0, 0, 0, [], none),
  (70, .aload_n 0, 1, 0, 0, 0, [], none),
  (71, .aload_n 0, 1, 0, 0, 0, [], none),
  (72, .iload_n 1, 1, 0, 0, 0, [], none),
  (73, .invokevirtual 258, 3, 0, 0, 0, [], some mX9_lasts),
  (76, .invokevirtual 255, 3, 0, 0, 0, [], some mX9_good),
  (79, .ireturn, 1, 0, 0, 0, [], none),
  (80, .aload_n 0, 1, 0, 0, 0, [], none),
  (81, .aload_n 0, 1, 0, 0, 0, [], none),
  (82, .iload_n 1, 1, 0, 0, 0, [], none),
  (83, .invokevirtual 261, 3, 0, 0, 0, [], some mX9_beginOf),
  (86, .invokevirtual 255, 3, 0, 0, 0, [], some mX9_good),
  (89, .ireturn, 1, 0, 0, 0, [], none),
  (90, .aload_n 0, 1, 0, 0, 0, [], none),
  (91, .aload_n 0, 1, 0, 0, 0, [], none),
  (92, .getfield 27, 3, 9, 25, 0, [], none),
  (95, .iload_n 1, 1, 0, 0, 0, [], none),
  (96, .iaload, 1, 0, 0, 0, [], none),
  (97, .invokevirtual 255, 3, 0, 0, 0, [], some mX9_good),
  (100, .ireturn, 1, 0, 0, 0, [], none),
  (101, .aload_n 0, 1, 0, 0, 0, [], none),
  (102, .aload_n 0, 1, 0, 0, 0, [], none),
  (103, .getfield 30, 3, 9, 26, 0, [], none),
  (106, .iload_n 1, 1, 0, 0, 0, [], none),
  (107, .iaload, 1, 0, 0, 0, [], none),
  (108, .invokevirtual 255, 3, 0, 0, 0, [], some mX9_good),
  (111, .ireturn, 1, 0, 0, 0, [], none),
  (112, .aload_n 0, 1, 0, 0, 0, [], none),
  (113, .aload_n 0, 1, 0, 0, 0, [], none),
  (114, .getfield 58, 3, 9, 35, 0, [], none),
  (117, .iload_n 1, 1, 0, 0, 0, [], none),
  (118, .iaload, 1, 0, 0, 0, [], none),
  (119, .invokevirtual 255, 3, 0, 0, 0, [], some mX9_good),
  (122, .ireturn, 1, 0, 0, 0, [], none),
  (123, .aload_n 0, 1, 0, 0, 0, [], none),
  (124, .iconst 1, 1, 0, 0, 0, [], none),
  (125, .invokevirtual 229, 3, 0, 0, 0, [], some mX9_refused),
  (128, .ireturn, 1, 0, 0, 0, [], none)]
set_option maxRecDepth 100000 in
theorem kX9_note : ab_def_ok mX9_note rX9_note := ⟨ab_mok_of 1538 110 1536 1537 (by decide +kernel), [0, 0, 1202, 0, 0, 1539, 0, 0, 0, 1371, 0, 0, 0, 0, 0, 0, 1472, 1519, 0, 0, 0, 0, 1464, 1519, 0, 0, 0, 0, 1460, 1519, 0, 0, 0, 1227, 0, 0, 1519, 0, 0, 0, 1228, 0, 0, 1519, 0, 0, 0, 1237, 0, 0, 1519, 0, 0, 0, 1371, 0], by decide +kernel⟩
set_option maxRecDepth 100000 in
theorem vX9_note_0 {x : ab_Cx} {d mc ms : Nat} {Post : Option ab_V → List ab_Ob → Prop} (hx : ab_At x mX9_note d mc ms Post) (a1 a2 : Int) (w0 : ab_Ob) (kc ks : Nat)
    (h : (∃ r1 : Int, ab_Calls d 0 0 mX9_isNote [ab_O 0, ab_I a1] [(ab_pf w0 0 0)] (some (ab_I r1)) [(ab_pf w0 0 0)] ∧ ((¬ r1 = 0 → ((a2 < 0 ∨ 5 < a2 → (∃ r17 : Int, ∃ v18 : ab_Ob, ab_Calls d 0 0 mX9_refused [ab_O 0, ab_I 1] [(ab_pf w0 0 0)] (some (ab_I r17)) [v18] ∧ Post (some (ab_I r17)) [v18])) ∧ ((a2 = 0 → (∃ r14 : Int, ab_Calls d 0 0 mX9_pitchOf [ab_O 0, ab_I a1] [(ab_pf w0 0 0)] (some (ab_I r14)) [(ab_pf w0 0 0)] ∧ (∃ r15 : Int, ∃ v16 : ab_Ob, ab_Calls d 0 0 mX9_good [ab_O 0, ab_I r14] [(ab_pf w0 0 0)] (some (ab_I r15)) [v16] ∧ Post (some (ab_I r15)) [v16]))) ∧ ((a2 = 1 → (∃ r11 : Int, ab_Calls d 0 0 mX9_lasts [ab_O 0, ab_I a1] [(ab_pf w0 0 0)] (some (ab_I r11)) [(ab_pf w0 0 0)] ∧ (∃ r12 : Int, ∃ v13 : ab_Ob, ab_Calls d 0 0 mX9_good [ab_O 0, ab_I r11] [(ab_pf w0 0 0)] (some (ab_I r12)) [v13] ∧ Post (some (ab_I r12)) [v13]))) ∧ ((a2 = 2 → (∃ r8 : Int, ab_Calls d 0 0 mX9_beginOf [ab_O 0, ab_I a1] [(ab_pf w0 0 0)] (some (ab_I r8)) [(ab_pf w0 0 0)] ∧ (∃ r9 : Int, ∃ v10 : ab_Ob, ab_Calls d 0 0 mX9_good [ab_O 0, ab_I r8] [(ab_pf w0 0 0)] (some (ab_I r9)) [v10] ∧ Post (some (ab_I r9)) [v10]))) ∧ ((a2 = 3 → ((0 ≤ a1 ∧ a1 < (w0.2 25).1) ∧ (∃ r6 : Int, ∃ v7 : ab_Ob, ab_Calls d 0 0 mX9_good [ab_O 0, ab_I ((w0.2 25).2 a1)] [(ab_pf w0 0 0)] (some (ab_I r6)) [v7] ∧ Post (some (ab_I r6)) [v7]))) ∧ ((a2 = 4 → ((0 ≤ a1 ∧ a1 < (w0.2 26).1) ∧ (∃ r4 : Int, ∃ v5 : ab_Ob, ab_Calls d 0 0 mX9_good [ab_O 0, ab_I ((w0.2 26).2 a1)] [(ab_pf w0 0 0)] (some (ab_I r4)) [v5] ∧ Post (some (ab_I r4)) [v5]))) ∧ ((a2 = 5 → ((0 ≤ a1 ∧ a1 < (w0.2 35).1) ∧ (∃ r2 : Int, ∃ v3 : ab_Ob, ab_Calls d 0 0 mX9_good [ab_O 0, ab_I ((w0.2 35).2 a1)] [(ab_pf w0 0 0)] (some (ab_I r2)) [v3] ∧ Post (some (ab_I r2)) [v3]))) ∧ True)))))))) ∧ (r1 = 0 → (∃ r19 : Int, ∃ v20 : ab_Ob, ab_Calls d 0 0 mX9_refused [ab_O 0, ab_I 1] [(ab_pf w0 0 0)] (some (ab_I r19)) [v20] ∧ Post (some (ab_I r19)) [v20]))))) :
    ab_J x 0 [some (ab_O 0), some (ab_I a1), some (ab_I a2)] [] [w0] kc ks := ab_go hx kX9_note.2 20 [] 0 h
def mX9_weight : ab_M := ((yX9_weight, cX9_weight, 2, (some .int)), ([9], [(0, 0)], [true], false, false, 0), (false, 9, 1))
def rX9_weight : List ab_R := [(0, .aload_n 0, 1, 0, 0, 0, [], none),
  (1, .iconst 0, 1, 0, 0, 0, [], none),
  (2, .putfield 100, 3, 9, 0, 0, [], none),
  (5, .aload_n 0, 1, 0, 0, 0, [], none),
  (6, .getfield 235, 3, 9, 14, 0, [], none),
  (9, .ifCond .eq 26, 3, 0, 0, 0, [35], none),
  (12, .iload_n 1, 1, 0, 0, 0, [], none),
  (13, .invokestatic 311, 3, 0, 0, 0, [], some mX9_isRule),
  (16, .ifCond .eq 19, 3, 0, 0, 0, [35], none),
  (19, .aload_n 0, 1, 0, 0, 0, [], none),
  (20, .aload_n 0, 1, 0, 0, 0, [], none),
  (21, .getfield 13, 3, 9, 3, 0, [], none),
  (24, .bipush 48, 2, 0, 0, 0, [], none),
  (26, .iload_n 1, 1, 0, 0, 0, [], none),
  (27, .iadd, 1, 0, 0, 0, [], none),
  (28, .iaload, 1, 0, 0, 0, [], none),
  (29, .invokevirtual 255, 3, 0, 0, 0, [], some mX9_good),
  (32, .goto 8, 3, 0, 0, 0, [40], none),
  (35, .aload_n 0, 1, 0, 0, 0, [], none),
  (36, .iconst 1, 1, 0, 0, 0, [], none),
  (37, .invokevirtual 229, 3, 0, 0, 0, [], some mX9_refused),
  (40, .ireturn, 1, 0, 0, 0, [], none)]
set_option maxRecDepth 100000 in
theorem kX9_weight : ab_def_ok mX9_weight rX9_weight := ⟨ab_mok_of 1546 110 1544 1545 (by decide +kernel), [0, 0, 1202, 0, 1216, 0, 0, 1547, 0, 0, 0, 1205, 0, 0, 0, 0, 1519, 0, 0, 0, 1371, 0], by decide +kernel⟩
set_option maxRecDepth 100000 in
theorem vX9_weight_0 {x : ab_Cx} {d mc ms : Nat} {Post : Option ab_V → List ab_Ob → Prop} (hx : ab_At x mX9_weight d mc ms Post) (a1 : Int) (w0 : ab_Ob) (kc ks : Nat)
    (h : (((w0.1 14) = 0 → (∃ r1 : Int, ∃ v2 : ab_Ob, ab_Calls d 0 0 mX9_refused [ab_O 0, ab_I 1] [(ab_pf w0 0 0)] (some (ab_I r1)) [v2] ∧ Post (some (ab_I r1)) [v2])) ∧ (¬ (w0.1 14) = 0 → (∃ r3 : Int, ab_Calls d 0 0 mX9_isRule [ab_I a1] [] (some (ab_I r3)) [] ∧ ((r3 = 0 → (∃ r4 : Int, ∃ v5 : ab_Ob, ab_Calls d 0 0 mX9_refused [ab_O 0, ab_I 1] [(ab_pf w0 0 0)] (some (ab_I r4)) [v5] ∧ Post (some (ab_I r4)) [v5])) ∧ (¬ r3 = 0 → ((-2147483648 ≤ 48 + a1 ∧ 48 + a1 ≤ 2147483647) ∧ ((0 ≤ (48 + a1) ∧ (48 + a1) < (w0.2 3).1) ∧ (∃ r6 : Int, ∃ v7 : ab_Ob, ab_Calls d 0 0 mX9_good [ab_O 0, ab_I ((w0.2 3).2 (48 + a1))] [(ab_pf w0 0 0)] (some (ab_I r6)) [v7] ∧ Post (some (ab_I r6)) [v7]))))))))) :
    ab_J x 0 [some (ab_O 0), some (ab_I a1)] [] [w0] kc ks := ab_go hx kX9_weight.2 23 [] 0 h
def mX9_breaks : ab_M := ((yX9_breaks, cX9_breaks, 3, (some .int)), ([9], [(0, 0)], [true], false, false, 0), (false, 9, 2))
def rX9_breaks : List ab_R := [(0, .aload_n 0, 1, 0, 0, 0, [], none),
  (1, .iconst 0, 1, 0, 0, 0, [], none),
  (2, .putfield 100, 3, 9, 0, 0, [], none),
  (5, .aload_n 0, 1, 0, 0, 0, [], none),
  (6, .iload_n 1, 1, 0, 0, 0, [], none),
  (7, .iload_n 2, 1, 0, 0, 0, [], none),
  (8, .invokevirtual 314, 3, 0, 0, 0, [], some mX9_isSpan),
  (11, .ifCond .eq 26, 3, 0, 0, 0, [37], none),
  (14, .aload_n 0, 1, 0, 0, 0, [], none),
  (15, .aload_n 0, 1, 0, 0, 0, [], none),
  (16, .getfield 33, 3, 9, 27, 0, [], none),
  (19, .iload_n 1, 1, 0, 0, 0, [], none),
  (20, .iload_n 2, 1, 0, 0, 0, [], none),
  (21, .aload_n 0, 1, 0, 0, 0, [], none),
  (22, .iload_n 1, 1, 0, 0, 0, [], none),
  (23, .iload_n 2, 1, 0, 0, 0, [], none),
  (24, .invokevirtual 318, 3, 0, 0, 0, [], some mX9_headOf),
  (27, .invokestatic 289, 3, 0, 0, 0, [], some mX9_cube),
  (30, .iaload, 1, 0, 0, 0, [], none),
  (31, .invokevirtual 255, 3, 0, 0, 0, [], some mX9_good),
  (34, .goto 8, 3, 0, 0, 0, [42], none),
  (37, .aload_n 0, 1, 0, 0, 0, [], none),
  (38, .iconst 1, 1, 0, 0, 0, [], none),
  (39, .invokevirtual 229, 3, 0, 0, 0, [], some mX9_refused),
  (42, .ireturn, 1, 0, 0, 0, [], none)]
set_option maxRecDepth 100000 in
theorem kX9_breaks : ab_def_ok mX9_breaks rX9_breaks := ⟨ab_mok_of 1553 110 1551 1552 (by decide +kernel), [0, 0, 1202, 0, 0, 0, 1554, 0, 0, 0, 1229, 0, 0, 0, 0, 0, 1511, 1480, 0, 1519, 0, 0, 0, 1371, 0], by decide +kernel⟩
set_option maxRecDepth 100000 in
theorem vX9_breaks_0 {x : ab_Cx} {d mc ms : Nat} {Post : Option ab_V → List ab_Ob → Prop} (hx : ab_At x mX9_breaks d mc ms Post) (a1 a2 : Int) (w0 : ab_Ob) (kc ks : Nat)
    (h : (∃ r1 : Int, ab_Calls d 0 0 mX9_isSpan [ab_O 0, ab_I a1, ab_I a2] [(ab_pf w0 0 0)] (some (ab_I r1)) [(ab_pf w0 0 0)] ∧ ((r1 = 0 → (∃ r2 : Int, ∃ v3 : ab_Ob, ab_Calls d 0 0 mX9_refused [ab_O 0, ab_I 1] [(ab_pf w0 0 0)] (some (ab_I r2)) [v3] ∧ Post (some (ab_I r2)) [v3])) ∧ (¬ r1 = 0 → (∃ r4 : Int, ab_Calls d 0 0 mX9_headOf [ab_O 0, ab_I a1, ab_I a2] [(ab_pf w0 0 0)] (some (ab_I r4)) [(ab_pf w0 0 0)] ∧ (∃ r5 : Int, ab_Calls d 0 0 mX9_cube [ab_I a1, ab_I a2, ab_I r4] [] (some (ab_I r5)) [] ∧ ((0 ≤ r5 ∧ r5 < (w0.2 27).1) ∧ (∃ r6 : Int, ∃ v7 : ab_Ob, ab_Calls d 0 0 mX9_good [ab_O 0, ab_I ((w0.2 27).2 r5)] [(ab_pf w0 0 0)] (some (ab_I r6)) [v7] ∧ Post (some (ab_I r6)) [v7])))))))) :
    ab_J x 0 [some (ab_O 0), some (ab_I a1), some (ab_I a2)] [] [w0] kc ks := ab_go hx kX9_breaks.2 26 [] 0 h
def mX9_head : ab_M := ((yX9_head, cX9_head, 3, (some .int)), ([9], [(0, 0)], [true], false, false, 0), (false, 9, 2))
def rX9_head : List ab_R := [(0, .aload_n 0, 1, 0, 0, 0, [], none),
  (1, .iconst 0, 1, 0, 0, 0, [], none),
  (2, .putfield 100, 3, 9, 0, 0, [], none),
  (5, .aload_n 0, 1, 0, 0, 0, [], none),
  (6, .iload_n 1, 1, 0, 0, 0, [], none),
  (7, .iload_n 2, 1, 0, 0, 0, [], none),
  (8, .invokevirtual 314, 3, 0, 0, 0, [], some mX9_isSpan),
  (11, .ifCond .eq 16, 3, 0, 0, 0, [27], none),
  (14, .aload_n 0, 1, 0, 0, 0, [], none),
  (15, .aload_n 0, 1, 0, 0, 0, [], none),
  (16, .iload_n 1, 1, 0, 0, 0, [], none),
  (17, .iload_n 2, 1, 0, 0, 0, [], none),
  (18, .invokevirtual 318, 3, 0, 0, 0, [], some mX9_headOf),
  (21, .invokevirtual 255, 3, 0, 0, 0, [], some mX9_good),
  (24, .goto 8, 3, 0, 0, 0, [32], none),
  (27, .aload_n 0, 1, 0, 0, 0, [], none),
  (28, .iconst 1, 1, 0, 0, 0, [], none),
  (29, .invokevirtual 229, 3, 0, 0, 0, [], some mX9_refused),
  (32, .ireturn, 1, 0, 0, 0, [], none)]
set_option maxRecDepth 100000 in
theorem kX9_head : ab_def_ok mX9_head rX9_head := ⟨ab_mok_of 1561 110 1559 1560 (by decide +kernel), [0, 0, 1202, 0, 0, 0, 1554, 0, 0, 0, 0, 0, 1511, 1519, 0, 0, 0, 1371, 0], by decide +kernel⟩
set_option maxRecDepth 100000 in
theorem vX9_head_0 {x : ab_Cx} {d mc ms : Nat} {Post : Option ab_V → List ab_Ob → Prop} (hx : ab_At x mX9_head d mc ms Post) (a1 a2 : Int) (w0 : ab_Ob) (kc ks : Nat)
    (h : (∃ r1 : Int, ab_Calls d 0 0 mX9_isSpan [ab_O 0, ab_I a1, ab_I a2] [(ab_pf w0 0 0)] (some (ab_I r1)) [(ab_pf w0 0 0)] ∧ ((r1 = 0 → (∃ r2 : Int, ∃ v3 : ab_Ob, ab_Calls d 0 0 mX9_refused [ab_O 0, ab_I 1] [(ab_pf w0 0 0)] (some (ab_I r2)) [v3] ∧ Post (some (ab_I r2)) [v3])) ∧ (¬ r1 = 0 → (∃ r4 : Int, ab_Calls d 0 0 mX9_headOf [ab_O 0, ab_I a1, ab_I a2] [(ab_pf w0 0 0)] (some (ab_I r4)) [(ab_pf w0 0 0)] ∧ (∃ r5 : Int, ∃ v6 : ab_Ob, ab_Calls d 0 0 mX9_good [ab_O 0, ab_I r4] [(ab_pf w0 0 0)] (some (ab_I r5)) [v6] ∧ Post (some (ab_I r5)) [v6])))))) :
    ab_J x 0 [some (ab_O 0), some (ab_I a1), some (ab_I a2)] [] [w0] kc ks := ab_go hx kX9_head.2 20 [] 0 h
def mX9_split : ab_M := ((yX9_split, cX9_split, 3, (some .int)), ([9], [(0, 0)], [true], false, false, 0), (false, 9, 2))
def rX9_split : List ab_R := [(0, .aload_n 0, 1, 0, 0, 0, [], none),
  (1, .iconst 0, 1, 0, 0, 0, [], none),
  (2, .putfield 100, 3, 9, 0, 0, [], none),
  (5, .aload_n 0, 1, 0, 0, 0, [], none),
  (6, .iload_n 1, 1, 0, 0, 0, [], none),
  (7, .iload_n 2, 1, 0, 0, 0, [], none),
  (8, .invokevirtual 314, 3, 0, 0, 0, [], some mX9_isSpan),
  (11, .ifCond .eq 26, 3, 0, 0, 0, [37], none),
  (14, .aload_n 0, 1, 0, 0, 0, [], none),
  (15, .aload_n 0, 1, 0, 0, 0, [], none),
  (16, .getfield 36, 3, 9, 28, 0, [], none),
  (19, .iload_n 1, 1, 0, 0, 0, [], none),
  (20, .iload_n 2, 1, 0, 0, 0, [], none),
  (21, .aload_n 0, 1, 0, 0, 0, [], none),
  (22, .iload_n 1, 1, 0, 0, 0, [], none),
  (23, .iload_n 2, 1, 0, 0, 0, [], none),
  (24, .invokevirtual 318, 3, 0, 0, 0, [], some mX9_headOf),
  (27, .invokestatic 289, 3, 0, 0, 0, [], some mX9_cube),
  (30, .iaload, 1, 0, 0, 0, [], none),
  (31, .invokevirtual 255, 3, 0, 0, 0, [], some mX9_good),
  (34, .goto 8, 3, 0, 0, 0, [42], none),
  (37, .aload_n 0, 1, 0, 0, 0, [], none),
  (38, .iconst 1, 1, 0, 0, 0, [], none),
  (39, .invokevirtual 229, 3, 0, 0, 0, [], some mX9_refused),
  (42, .ireturn, 1, 0, 0, 0, [], none)]
set_option maxRecDepth 100000 in
theorem kX9_split : ab_def_ok mX9_split rX9_split := ⟨ab_mok_of 1565 110 1563 1564 (by decide +kernel), [0, 0, 1202, 0, 0, 0, 1554, 0, 0, 0, 1230, 0, 0, 0, 0, 0, 1511, 1480, 0, 1519, 0, 0, 0, 1371, 0], by decide +kernel⟩
set_option maxRecDepth 100000 in
theorem vX9_split_0 {x : ab_Cx} {d mc ms : Nat} {Post : Option ab_V → List ab_Ob → Prop} (hx : ab_At x mX9_split d mc ms Post) (a1 a2 : Int) (w0 : ab_Ob) (kc ks : Nat)
    (h : (∃ r1 : Int, ab_Calls d 0 0 mX9_isSpan [ab_O 0, ab_I a1, ab_I a2] [(ab_pf w0 0 0)] (some (ab_I r1)) [(ab_pf w0 0 0)] ∧ ((r1 = 0 → (∃ r2 : Int, ∃ v3 : ab_Ob, ab_Calls d 0 0 mX9_refused [ab_O 0, ab_I 1] [(ab_pf w0 0 0)] (some (ab_I r2)) [v3] ∧ Post (some (ab_I r2)) [v3])) ∧ (¬ r1 = 0 → (∃ r4 : Int, ab_Calls d 0 0 mX9_headOf [ab_O 0, ab_I a1, ab_I a2] [(ab_pf w0 0 0)] (some (ab_I r4)) [(ab_pf w0 0 0)] ∧ (∃ r5 : Int, ab_Calls d 0 0 mX9_cube [ab_I a1, ab_I a2, ab_I r4] [] (some (ab_I r5)) [] ∧ ((0 ≤ r5 ∧ r5 < (w0.2 28).1) ∧ (∃ r6 : Int, ∃ v7 : ab_Ob, ab_Calls d 0 0 mX9_good [ab_O 0, ab_I ((w0.2 28).2 r5)] [(ab_pf w0 0 0)] (some (ab_I r6)) [v7] ∧ Post (some (ab_I r6)) [v7])))))))) :
    ab_J x 0 [some (ab_O 0), some (ab_I a1), some (ab_I a2)] [] [w0] kc ks := ab_go hx kX9_split.2 26 [] 0 h
def mX9_breaksBy : ab_M := ((yX9_breaksBy, cX9_breaksBy, 4, (some .int)), ([9], [(0, 0)], [true], false, false, 0), (false, 9, 3))
def rX9_breaksBy : List ab_R := [(0, .aload_n 0, 1, 0, 0, 0, [], none),
  (1, .iconst 0, 1, 0, 0, 0, [], none),
  (2, .putfield 100, 3, 9, 0, 0, [], none),
  (5, .aload_n 0, 1, 0, 0, 0, [], none),
  (6, .iload_n 1, 1, 0, 0, 0, [], none),
  (7, .iload_n 2, 1, 0, 0, 0, [], none),
  (8, .invokevirtual 314, 3, 0, 0, 0, [], some mX9_isSpan),
  (11, .ifCond .eq 30, 3, 0, 0, 0, [41], none),
  (14, .iload_n 3, 1, 0, 0, 0, [], none),
  (15, .iload_n 1, 1, 0, 0, 0, [], none),
  (16, .iload_n 2, 1, 0, 0, 0, [], none),
  (17, .invokestatic 125, 3, 0, 0, 0, [], some mX9_in),
  (20, .ifCond .eq 21, 3, 0, 0, 0, [41], none),
  (23, .aload_n 0, 1, 0, 0, 0, [], none),
  (24, .aload_n 0, 1, 0, 0, 0, [], none),
  (25, .getfield 33, 3, 9, 27, 0, [], none),
  (28, .iload_n 1, 1, 0, 0, 0, [], none),
  (29, .iload_n 2, 1, 0, 0, 0, [], none),
  (30, .iload_n 3, 1, 0, 0, 0, [], none),
  (31, .invokestatic 289, 3, 0, 0, 0, [], some mX9_cube),
  (34, .iaload, 1, 0, 0, 0, [], none),
  (35, .invokevirtual 255, 3, 0, 0, 0, [], some mX9_good),
  (38, .goto 8, 3, 0, 0, 0, [46], none),
  (41, .aload_n 0, 1, 0, 0, 0, [], none),
  (42, .iconst 1, 1, 0, 0, 0, [], none),
  (43, .invokevirtual 229, 3, 0, 0, 0, [], some mX9_refused),
  (46, .ireturn, 1, 0, 0, 0, [], none)]
set_option maxRecDepth 100000 in
theorem kX9_breaksBy : ab_def_ok mX9_breaksBy rX9_breaksBy := ⟨ab_mok_of 1569 110 1567 1568 (by decide +kernel), [0, 0, 1202, 0, 0, 0, 1554, 0, 0, 0, 0, 1387, 0, 0, 0, 1229, 0, 0, 0, 1480, 0, 1519, 0, 0, 0, 1371, 0], by decide +kernel⟩
set_option maxRecDepth 100000 in
theorem vX9_breaksBy_0 {x : ab_Cx} {d mc ms : Nat} {Post : Option ab_V → List ab_Ob → Prop} (hx : ab_At x mX9_breaksBy d mc ms Post) (a1 a2 a3 : Int) (w0 : ab_Ob) (kc ks : Nat)
    (h : (∃ r1 : Int, ab_Calls d 0 0 mX9_isSpan [ab_O 0, ab_I a1, ab_I a2] [(ab_pf w0 0 0)] (some (ab_I r1)) [(ab_pf w0 0 0)] ∧ ((r1 = 0 → (∃ r2 : Int, ∃ v3 : ab_Ob, ab_Calls d 0 0 mX9_refused [ab_O 0, ab_I 1] [(ab_pf w0 0 0)] (some (ab_I r2)) [v3] ∧ Post (some (ab_I r2)) [v3])) ∧ (¬ r1 = 0 → (∃ r4 : Int, ab_Calls d 0 0 mX9_in [ab_I a3, ab_I a1, ab_I a2] [] (some (ab_I r4)) [] ∧ ((r4 = 0 → (∃ r5 : Int, ∃ v6 : ab_Ob, ab_Calls d 0 0 mX9_refused [ab_O 0, ab_I 1] [(ab_pf w0 0 0)] (some (ab_I r5)) [v6] ∧ Post (some (ab_I r5)) [v6])) ∧ (¬ r4 = 0 → (∃ r7 : Int, ab_Calls d 0 0 mX9_cube [ab_I a1, ab_I a2, ab_I a3] [] (some (ab_I r7)) [] ∧ ((0 ≤ r7 ∧ r7 < (w0.2 27).1) ∧ (∃ r8 : Int, ∃ v9 : ab_Ob, ab_Calls d 0 0 mX9_good [ab_O 0, ab_I ((w0.2 27).2 r7)] [(ab_pf w0 0 0)] (some (ab_I r8)) [v9] ∧ Post (some (ab_I r8)) [v9])))))))))) :
    ab_J x 0 [some (ab_O 0), some (ab_I a1), some (ab_I a2), some (ab_I a3)] [] [w0] kc ks := ab_go hx kX9_breaksBy.2 28 [] 0 h
def mX9_ways : ab_M := ((yX9_ways, cX9_ways, 7, (some .long)), ([9], [(0, 0)], [true], false, false, 0), (false, 9, 2))
def rX9_ways : List ab_R := [(0, .aload_n 0, 1, 0, 0, 0, [], none),
  (1, .iconst 0, 1, 0, 0, 0, [], none),
  (2, .putfield 100, 3, 9, 0, 0, [], none),
  (5, .aload_n 0, 1, 0, 0, 0, [], none),
  (6, .iload_n 1, 1, 0, 0, 0, [], none),
  (7, .iload_n 2, 1, 0, 0, 0, [], none),
  (8, .invokevirtual 314, 3, 0, 0, 0, [], some mX9_isSpan),
  (11, .ifCond .ne 10, 3, 0, 0, 0, [21], none),
  (14, .aload_n 0, 1, 0, 0, 0, [], none),
  (15, .iconst 1, 1, 0, 0, 0, [], none),
  (16, .invokevirtual 229, 3, 0, 0, 0, [], some mX9_refused),
  (19, .i2l, 1, 0, 0, 0, [], none),
  (20, .lreturn, 1, 0, 0, 0, [], none),
  (21, .aload_n 0, 1, 0, 0, 0, [], none),
  (22, .getfield 33, 3, 9, 27, 0, [], none),
  (25, .iload_n 1, 1, 0, 0, 0, [], none),
  (26, .iload_n 2, 1, 0, 0, 0, [], none),
  (27, .aload_n 0, 1, 0, 0, 0, [], none),
  (28, .iload_n 1, 1, 0, 0, 0, [], none),
  (29, .iload_n 2, 1, 0, 0, 0, [], none),
  (30, .invokevirtual 318, 3, 0, 0, 0, [], some mX9_headOf),
  (33, .invokestatic 289, 3, 0, 0, 0, [], some mX9_cube),
  (36, .iaload, 1, 0, 0, 0, [], none),
  (37, .istore_n 3, 1, 0, 0, 0, [], none),
  (38, .lconst 0, 1, 0, 0, 0, [], none),
  (39, .lstore 4, 2, 0, 0, 0, [], none),
  (41, .iload_n 1, 1, 0, 0, 0, [], none),
  (42, .istore 6, 2, 0, 0, 0, [], none),
  (44, .iload 6, 2, 0, 0, 0, [], none),
  (46, .iload_n 2, 1, 0, 0, 0, [], none),
  (47, .if_icmp .gt 42, 3, 0, 0, 0, [89], none),
  (50, .aload_n 0, 1, 0, 0, 0, [], none),
  (51, .getfield 33, 3, 9, 27, 0, [], none),
  (54, .iload_n 1, 1, 0, 0, 0, [], none),
  (55, .iload_n 2, 1, 0, 0, 0, [], none),
  (56, .iload 6, 2, 0, 0, 0, [], none),
  (58, .invokestatic 289, 3, 0, 0, 0, [], some mX9_cube),
  (61, .iaload, 1, 0, 0, 0, [], none),
  (62, .iload_n 3, 1, 0, 0, 0, [], none),
  (63, .if_icmp .ne 20, 3, 0, 0, 0, [83], none),
  (66, .lload 4, 2, 0, 0, 0, [], none),
  (68, .aload_n 0, 1, 0, 0, 0, [], none),
  (69, .getfield 42, 3, 9, 30, 0, [], none),
  (72, .iload_n 1, 1, 0, 0, 0, [], none),
  (73, .iload_n 2, 1, 0, 0, 0, [], none),
  (74, .iload 6, 2, 0, 0, 0, [], none),
  (76, .invokestatic 289, 3, 0, 0, 0, [], some mX9_cube),
  (79, .laload, 1, 0, 0, 0, [], none),
  (80, .ladd, 1, 0, 0, 0, [], none),
  (81, .lstore 4, 2, 0, 0, 0, [], none),
  (83, .iinc 6 1, 3, 0, 0, 0, [], none),
  (86, .goto (-42), 3, 0, 0, 0, [44], none),
  (89, .aload_n 0, 1, 0, 0, 0, [], none),
  (90, .iconst 0, 1, 0, 0, 0, [], none),
  (91, .invokevirtual 255, 3, 0, 0, 0, [], some mX9_good),
  (94, .pop, 1, 0, 0, 0, [], none),
  (95, .lload 4, 2, 0, 0, 0, [], none),
  (97, .ldc2_w 305, 3, 0, 1000000000000, 0, [], none),
  (100, .lcmp, 1, 0, 0, 0, [], none),
  (101, .ifCond .le 9, 3, 0, 0, 0, [110], none),
  (104, .ldc2_w 305, 3, 0, 1000000000000, 0, [], none),
  (107, .goto 5, 3, 0, 0, 0, [112], none),
  (110, .lload 4, 2, 0, 0, 0, [], none),
  (112, .lreturn, 1, 0, 0, 0, [], none)]
set_option maxRecDepth 100000 in
theorem kX9_ways : ab_def_ok mX9_ways rX9_ways := ⟨ab_mok_of 1573 110 1571 1572 (by decide +kernel), [0, 0, 1202, 0, 0, 0, 1554, 0, 0, 0, 1371, 0, 0, 0, 1229, 0, 0, 0, 0, 0, 1511, 1480, 0, 0, 0, 0, 0, 0, 0, 0, 0, 0, 1229, 0, 0, 0, 1480, 0, 0, 0, 0, 0, 1232, 0, 0, 0, 1480, 0, 0, 0, 0, 0, 0, 0, 1519, 0, 0, 1506, 0, 0, 1506, 0, 0, 0], by decide +kernel⟩
set_option maxRecDepth 100000 in
theorem vX9_ways_0 {x : ab_Cx} {d mc ms : Nat} {Post : Option ab_V → List ab_Ob → Prop} (hx : ab_At x mX9_ways d mc ms Post) (a1 a2 : Int) (w0 : ab_Ob) (kc ks : Nat)
    (h : (∃ r1 : Int, ab_Calls d 0 0 mX9_isSpan [ab_O 0, ab_I a1, ab_I a2] [(ab_pf w0 0 0)] (some (ab_I r1)) [(ab_pf w0 0 0)] ∧ ((¬ r1 = 0 → (∃ r2 : Int, ab_Calls d 0 0 mX9_headOf [ab_O 0, ab_I a1, ab_I a2] [(ab_pf w0 0 0)] (some (ab_I r2)) [(ab_pf w0 0 0)] ∧ (∃ r3 : Int, ab_Calls d 0 0 mX9_cube [ab_I a1, ab_I a2, ab_I r2] [] (some (ab_I r3)) [] ∧ ((0 ≤ r3 ∧ r3 < (w0.2 27).1) ∧ ab_J x 44 [some (ab_O 0), some (ab_I a1), some (ab_I a2), some (ab_I ((w0.2 27).2 r3)), some (ab_L 0), none, some (ab_I a1)] [] [(ab_pf w0 0 0)] kc ks)))) ∧ (r1 = 0 → (∃ r4 : Int, ∃ v5 : ab_Ob, ab_Calls d 0 0 mX9_refused [ab_O 0, ab_I 1] [(ab_pf w0 0 0)] (some (ab_I r4)) [v5] ∧ Post (some (ab_L r4)) [v5]))))) :
    ab_J x 0 [some (ab_O 0), some (ab_I a1), some (ab_I a2), none, none, none, none] [] [w0] kc ks := ab_go hx kX9_ways.2 28 [(44, [true, true, true, true, true, false, true])] 0 h
set_option maxRecDepth 100000 in
theorem vX9_ways_44 {x : ab_Cx} {d mc ms : Nat} {Post : Option ab_V → List ab_Ob → Prop} (hx : ab_At x mX9_ways d mc ms Post) (l1 l2 l3 l4 l6 : Int) (w0 : ab_Ob) (kc ks : Nat)
    (h : ((l2 < l6 → (∃ r1 : Int, ∃ v2 : ab_Ob, ab_Calls d 0 0 mX9_good [ab_O 0, ab_I 0] [w0] (some (ab_I r1)) [v2] ∧ (((ab_cmp l4 1000000000000) ≤ 0 → Post (some (ab_L l4)) [v2]) ∧ (¬ (ab_cmp l4 1000000000000) ≤ 0 → Post (some (ab_L 1000000000000)) [v2])))) ∧ (¬ l2 < l6 → (∃ r3 : Int, ab_Calls d 0 0 mX9_cube [ab_I l1, ab_I l2, ab_I l6] [] (some (ab_I r3)) [] ∧ ((0 ≤ r3 ∧ r3 < (w0.2 27).1) ∧ ((¬ ((w0.2 27).2 r3) = l3 → ((-2147483648 ≤ l6 + 1 ∧ l6 + 1 ≤ 2147483647) ∧ ab_J x 44 [some (ab_O 0), some (ab_I l1), some (ab_I l2), some (ab_I l3), some (ab_L l4), none, some (ab_I (l6 + 1))] [] [w0] kc ks)) ∧ (((w0.2 27).2 r3) = l3 → (∃ r4 : Int, ab_Calls d 0 0 mX9_cube [ab_I l1, ab_I l2, ab_I l6] [] (some (ab_I r4)) [] ∧ ((0 ≤ r4 ∧ r4 < (w0.2 30).1) ∧ ((-9223372036854775808 ≤ l4 + ((w0.2 30).2 r4) ∧ l4 + ((w0.2 30).2 r4) ≤ 9223372036854775807) ∧ ((-2147483648 ≤ l6 + 1 ∧ l6 + 1 ≤ 2147483647) ∧ ab_J x 44 [some (ab_O 0), some (ab_I l1), some (ab_I l2), some (ab_I l3), some (ab_L (l4 + ((w0.2 30).2 r4))), none, some (ab_I (l6 + 1))] [] [w0] kc ks))))))))))) :
    ab_J x 44 [some (ab_O 0), some (ab_I l1), some (ab_I l2), some (ab_I l3), some (ab_L l4), none, some (ab_I l6)] [] [w0] kc ks := ab_go hx kX9_ways.2 29 [(44, [true, true, true, true, true, false, true])] 44 h
def mX9_splitCost : ab_M := ((yX9_splitCost, cX9_splitCost, 9, (some .int)), ([9], [(0, 0)], [true], false, false, 0), (false, 9, 3))
def rX9_splitCost : List ab_R := [(0, .aload_n 0, 1, 0, 0, 0, [], none),
  (1, .iconst 0, 1, 0, 0, 0, [], none),
  (2, .putfield 100, 3, 9, 0, 0, [], none),
  (5, .aload_n 0, 1, 0, 0, 0, [], none),
  (6, .iload_n 1, 1, 0, 0, 0, [], none),
  (7, .iload_n 2, 1, 0, 0, 0, [], none),
  (8, .invokevirtual 314, 3, 0, 0, 0, [], some mX9_isSpan),
  (11, .ifCond .eq 14, 3, 0, 0, 0, [25], none),
  (14, .iload_n 3, 1, 0, 0, 0, [], none),
  (15, .iload_n 1, 1, 0, 0, 0, [], none),
  (16, .iload_n 2, 1, 0, 0, 0, [], none),
  (17, .iconst 1, 1, 0, 0, 0, [], none),
  (18, .isub, 1, 0, 0, 0, [], none),
  (19, .invokestatic 125, 3, 0, 0, 0, [], some mX9_in),
  (22, .ifCond .ne 9, 3, 0, 0, 0, [31], none),
  (25, .aload_n 0, 1, 0, 0, 0, [], none),
  (26, .iconst 1, 1, 0, 0, 0, [], none),
  (27, .invokevirtual 229, 3, 0, 0, 0, [], some mX9_refused),
  (30, .ireturn, 1, 0, 0, 0, [], none),
  (31, .ldc_w 293, 3, 0, 1000000000, 0, [], none),
  (34, .istore 4, 2, 0, 0, 0, [], none),
  (36, .iload_n 1, 1, 0, 0, 0, [], none),
  (37, .istore 5, 2, 0, 0, 0, [], none),
  (39, .iload 5, 2, 0, 0, 0, [], none),
  (41, .iload_n 3, 1, 0, 0, 0, [], none),
  (42, .if_icmp .gt 74, 3, 0, 0, 0, [116], none),
  (45, .iload_n 3, 1, 0, 0, 0, [], none),
  (46, .iconst 1, 1, 0, 0, 0, [], none),
  (47, .iadd, 1, 0, 0, 0, [], none),
  (48, .istore 6, 2, 0, 0, 0, [], none),
  (50, .iload 6, 2, 0, 0, 0, [], none),
  (52, .iload_n 2, 1, 0, 0, 0, [], none),
  (53, .if_icmp .gt 57, 3, 0, 0, 0, [110], none),
  (56, .aload_n 0, 1, 0, 0, 0, [], none),
  (57, .iload_n 1, 1, 0, 0, 0, [], none),
  (58, .iload_n 2, 1, 0, 0, 0, [], none),
  (59, .iload 5, 2, 0, 0, 0, [], none),
  (61, .iload_n 3, 1, 0, 0, 0, [], none),
  (62, .iload 6, 2, 0, 0, 0, [], none),
  (64, .invokevirtual 302, 3, 0, 0, 0, [], some mX9_joinedBy),
  (67, .istore 7, 2, 0, 0, 0, [], none),
  (69, .aload_n 0, 1, 0, 0, 0, [], none),
  (70, .iload_n 1, 1, 0, 0, 0, [], none),
  (71, .iload_n 2, 1, 0, 0, 0, [], none),
  (72, .iload 6, 2, 0, 0, 0, [], none),
  (74, .iload_n 3, 1, 0, 0, 0, [], none),
  (75, .iload 5, 2, 0, 0, 0, [], none),
  (77, .invokevirtual 302, 3, 0, 0, 0, [], some mX9_joinedBy),
  (80, .istore 8, 2, 0, 0, 0, [], none),
  (82, .iload 7, 2, 0, 0, 0, [], none),
  (84, .iload 4, 2, 0, 0, 0, [], none),
  (86, .if_icmp .ge 7, 3, 0, 0, 0, [93], none),
  (89, .iload 7, 2, 0, 0, 0, [], none),
  (91, .istore 4, 2, 0, 0, 0, [], none),
  (93, .iload 8, 2, 0, 0, 0, [], none),
  (95, .iload 4, 2, 0, 0, 0, [], none),
  (97, .if_icmp .ge 7, 3, 0, 0, 0, [104], none),
  (100, .iload 8, 2, 0, 0, 0, [], none),
  (102, .istore 4, 2, 0, 0, 0, [], none),
  (104, .iinc 6 1, 3, 0, 0, 0, [], none),
  (107, .goto (-57), 3, 0, 0, 0, [50], none),
  (110, .iinc 5 1, 3, 0, 0, 0, [], none),
  (113, .goto (-74), 3, 0, 0, 0, [39], none),
  (116, .aload_n 0, 1, 0, 0, 0, [], none),
  (117, .iload 4, 2, 0, 0, 0, [], none),
  (119, .aload_n 0, 1, 0, 0, 0, [], none),
  (120, .getfield 33, 3, 9, 27, 0, [], none),
  (123, .iload_n 1, 1, 0, 0, 0, [], none),
  (124, .iload_n 2, 1, 0, 0, 0, [], none),
  (125, .aload_n 0, 1, 0, 0, 0, [], none),
  (126, .iload_n 1, 1, 0, 0, 0, [], none),
  (127, .iload_n 2, 1, 0, 0, 0, [], none),
  (128, .invokevirtual 318, 3, 0, 0, 0, [], some mX9_headOf),
  (131, .invokestatic 289, 3, 0, 0, 0, [], some mX9_cube),
  (134, .iaload, 1, 0, 0, 0, [], none),
  (135, .isub, 1, 0, 0, 0, [], none),
  (136, .invokevirtual 255, 3, 0, 0, 0, [], some mX9_good),
  (139, .ireturn, 1, 0, 0, 0, [], none)]
set_option maxRecDepth 100000 in
theorem kX9_splitCost : ab_def_ok mX9_splitCost rX9_splitCost := ⟨ab_mok_of 1577 110 1575 1576 (by decide +kernel), [0, 0, 1202, 0, 0, 0, 1554, 0, 0, 0, 0, 0, 0, 1387, 0, 0, 0, 1371, 0, 1483, 0, 0, 0, 0, 0, 0, 0, 0, 0, 0, 0, 0, 0, 0, 0, 0, 0, 0, 0, 1488, 0, 0, 0, 0, 0, 0, 0, 1488, 0, 0, 0, 0, 0, 0, 0, 0, 0, 0, 0, 0, 0, 0, 0, 0, 0, 0, 1229, 0, 0, 0, 0, 0, 1511, 1480, 0, 0, 1519, 0], by decide +kernel⟩
set_option maxRecDepth 100000 in
theorem vX9_splitCost_0 {x : ab_Cx} {d mc ms : Nat} {Post : Option ab_V → List ab_Ob → Prop} (hx : ab_At x mX9_splitCost d mc ms Post) (a1 a2 a3 : Int) (w0 : ab_Ob) (kc ks : Nat)
    (h : (∃ r1 : Int, ab_Calls d 0 0 mX9_isSpan [ab_O 0, ab_I a1, ab_I a2] [(ab_pf w0 0 0)] (some (ab_I r1)) [(ab_pf w0 0 0)] ∧ ((r1 = 0 → (∃ r2 : Int, ∃ v3 : ab_Ob, ab_Calls d 0 0 mX9_refused [ab_O 0, ab_I 1] [(ab_pf w0 0 0)] (some (ab_I r2)) [v3] ∧ Post (some (ab_I r2)) [v3])) ∧ (¬ r1 = 0 → ((-2147483648 ≤ a2 - 1 ∧ a2 - 1 ≤ 2147483647) ∧ (∃ r4 : Int, ab_Calls d 0 0 mX9_in [ab_I a3, ab_I a1, ab_I (a2 - 1)] [] (some (ab_I r4)) [] ∧ ((¬ r4 = 0 → ab_J x 39 [some (ab_O 0), some (ab_I a1), some (ab_I a2), some (ab_I a3), some (ab_I 1000000000), some (ab_I a1), none, none, none] [] [(ab_pf w0 0 0)] kc ks) ∧ (r4 = 0 → (∃ r5 : Int, ∃ v6 : ab_Ob, ab_Calls d 0 0 mX9_refused [ab_O 0, ab_I 1] [(ab_pf w0 0 0)] (some (ab_I r5)) [v6] ∧ Post (some (ab_I r5)) [v6]))))))))) :
    ab_J x 0 [some (ab_O 0), some (ab_I a1), some (ab_I a2), some (ab_I a3), none, none, none, none, none] [] [w0] kc ks := ab_go hx kX9_splitCost.2 24 [(39, [true, true, true, true, true, true, false, false, false]), (50, [true, true, true, true, true, true, true, false, false])] 0 h
set_option maxRecDepth 100000 in
theorem vX9_splitCost_39 {x : ab_Cx} {d mc ms : Nat} {Post : Option ab_V → List ab_Ob → Prop} (hx : ab_At x mX9_splitCost d mc ms Post) (l1 l2 l3 l4 l5 : Int) (w0 : ab_Ob) (kc ks : Nat)
    (h : ((l3 < l5 → (∃ r1 : Int, ab_Calls d 0 0 mX9_headOf [ab_O 0, ab_I l1, ab_I l2] [w0] (some (ab_I r1)) [w0] ∧ (∃ r2 : Int, ab_Calls d 0 0 mX9_cube [ab_I l1, ab_I l2, ab_I r1] [] (some (ab_I r2)) [] ∧ ((0 ≤ r2 ∧ r2 < (w0.2 27).1) ∧ ((-2147483648 ≤ l4 - ((w0.2 27).2 r2) ∧ l4 - ((w0.2 27).2 r2) ≤ 2147483647) ∧ (∃ r3 : Int, ∃ v4 : ab_Ob, ab_Calls d 0 0 mX9_good [ab_O 0, ab_I (l4 - ((w0.2 27).2 r2))] [w0] (some (ab_I r3)) [v4] ∧ Post (some (ab_I r3)) [v4])))))) ∧ (¬ l3 < l5 → ((-2147483648 ≤ l3 + 1 ∧ l3 + 1 ≤ 2147483647) ∧ ab_J x 50 [some (ab_O 0), some (ab_I l1), some (ab_I l2), some (ab_I l3), some (ab_I l4), some (ab_I l5), some (ab_I (l3 + 1)), none, none] [] [w0] kc ks)))) :
    ab_J x 39 [some (ab_O 0), some (ab_I l1), some (ab_I l2), some (ab_I l3), some (ab_I l4), some (ab_I l5), none, none, none] [] [w0] kc ks := ab_go hx kX9_splitCost.2 22 [(39, [true, true, true, true, true, true, false, false, false]), (50, [true, true, true, true, true, true, true, false, false])] 39 h
set_option maxRecDepth 100000 in
theorem vX9_splitCost_50 {x : ab_Cx} {d mc ms : Nat} {Post : Option ab_V → List ab_Ob → Prop} (hx : ab_At x mX9_splitCost d mc ms Post) (l1 l2 l3 l4 l5 l6 : Int) (w0 : ab_Ob) (kc ks : Nat)
    (h : ((l2 < l6 → ((-2147483648 ≤ l5 + 1 ∧ l5 + 1 ≤ 2147483647) ∧ ab_J x 39 [some (ab_O 0), some (ab_I l1), some (ab_I l2), some (ab_I l3), some (ab_I l4), some (ab_I (l5 + 1)), none, none, none] [] [w0] kc ks)) ∧ (¬ l2 < l6 → (∃ r1 : Int, ab_Calls d 0 0 mX9_joinedBy [ab_O 0, ab_I l1, ab_I l2, ab_I l5, ab_I l3, ab_I l6] [w0] (some (ab_I r1)) [w0] ∧ (∃ r2 : Int, ab_Calls d 0 0 mX9_joinedBy [ab_O 0, ab_I l1, ab_I l2, ab_I l6, ab_I l3, ab_I l5] [w0] (some (ab_I r2)) [w0] ∧ ((l4 ≤ r1 → ((l4 ≤ r2 → ((-2147483648 ≤ l6 + 1 ∧ l6 + 1 ≤ 2147483647) ∧ ab_J x 50 [some (ab_O 0), some (ab_I l1), some (ab_I l2), some (ab_I l3), some (ab_I l4), some (ab_I l5), some (ab_I (l6 + 1)), none, none] [] [w0] kc ks)) ∧ (¬ l4 ≤ r2 → ((-2147483648 ≤ l6 + 1 ∧ l6 + 1 ≤ 2147483647) ∧ ab_J x 50 [some (ab_O 0), some (ab_I l1), some (ab_I l2), some (ab_I l3), some (ab_I r2), some (ab_I l5), some (ab_I (l6 + 1)), none, none] [] [w0] kc ks)))) ∧ (¬ l4 ≤ r1 → ((r1 ≤ r2 → ((-2147483648 ≤ l6 + 1 ∧ l6 + 1 ≤ 2147483647) ∧ ab_J x 50 [some (ab_O 0), some (ab_I l1), some (ab_I l2), some (ab_I l3), some (ab_I r1), some (ab_I l5), some (ab_I (l6 + 1)), none, none] [] [w0] kc ks)) ∧ (¬ r1 ≤ r2 → ((-2147483648 ≤ l6 + 1 ∧ l6 + 1 ≤ 2147483647) ∧ ab_J x 50 [some (ab_O 0), some (ab_I l1), some (ab_I l2), some (ab_I l3), some (ab_I r2), some (ab_I l5), some (ab_I (l6 + 1)), none, none] [] [w0] kc ks)))))))))) :
    ab_J x 50 [some (ab_O 0), some (ab_I l1), some (ab_I l2), some (ab_I l3), some (ab_I l4), some (ab_I l5), some (ab_I l6), none, none] [] [w0] kc ks := ab_go hx kX9_splitCost.2 36 [(39, [true, true, true, true, true, true, false, false, false]), (50, [true, true, true, true, true, true, true, false, false])] 50 h
def mX9_second : ab_M := ((yX9_second, cX9_second, 6, (some .int)), ([9], [(0, 0)], [true], false, false, 0), (false, 9, 2))
def rX9_second : List ab_R := [(0, .aload_n 0, 1, 0, 0, 0, [], none),
  (1, .iconst 0, 1, 0, 0, 0, [], none),
  (2, .putfield 100, 3, 9, 0, 0, [], none),
  (5, .aload_n 0, 1, 0, 0, 0, [], none),
  (6, .iload_n 1, 1, 0, 0, 0, [], none),
  (7, .iload_n 2, 1, 0, 0, 0, [], none),
  (8, .invokevirtual 314, 3, 0, 0, 0, [], some mX9_isSpan),
  (11, .ifCond .ne 9, 3, 0, 0, 0, [20], none),
  (14, .aload_n 0, 1, 0, 0, 0, [], none),
  (15, .iconst 1, 1, 0, 0, 0, [], none),
  (16, .invokevirtual 229, 3, 0, 0, 0, [], some mX9_refused),
  (19, .ireturn, 1, 0, 0, 0, [], none),
  (20, .aload_n 0, 1, 0, 0, 0, [], none),
  (21, .iload_n 1, 1, 0, 0, 0, [], none),
  (22, .iload_n 2, 1, 0, 0, 0, [], none),
  (23, .invokevirtual 318, 3, 0, 0, 0, [], some mX9_headOf),
  (26, .istore_n 3, 1, 0, 0, 0, [], none),
  (27, .bipush (-2), 2, 0, 0, 0, [], none),
  (29, .istore 4, 2, 0, 0, 0, [], none),
  (31, .iload_n 1, 1, 0, 0, 0, [], none),
  (32, .istore 5, 2, 0, 0, 0, [], none),
  (34, .iload 5, 2, 0, 0, 0, [], none),
  (36, .iload_n 2, 1, 0, 0, 0, [], none),
  (37, .if_icmp .gt 53, 3, 0, 0, 0, [90], none),
  (40, .iload 5, 2, 0, 0, 0, [], none),
  (42, .iload_n 3, 1, 0, 0, 0, [], none),
  (43, .if_icmp .eq 41, 3, 0, 0, 0, [84], none),
  (46, .iload 4, 2, 0, 0, 0, [], none),
  (48, .bipush (-2), 2, 0, 0, 0, [], none),
  (50, .if_icmp .eq 30, 3, 0, 0, 0, [80], none),
  (53, .aload_n 0, 1, 0, 0, 0, [], none),
  (54, .getfield 33, 3, 9, 27, 0, [], none),
  (57, .iload_n 1, 1, 0, 0, 0, [], none),
  (58, .iload_n 2, 1, 0, 0, 0, [], none),
  (59, .iload 5, 2, 0, 0, 0, [], none),
  (61, .invokestatic 289, 3, 0, 0, 0, [], some mX9_cube),
  (64, .iaload, 1, 0, 0, 0, [], none),
  (65, .aload_n 0, 1, 0, 0, 0, [], none),
  (66, .getfield 33, 3, 9, 27, 0, [], none),
  (69, .iload_n 1, 1, 0, 0, 0, [], none),
  (70, .iload_n 2, 1, 0, 0, 0, [], none),
  (71, .iload 4, 2, 0, 0, 0, [], none),
  (73, .invokestatic 289, 3, 0, 0, 0, [], some mX9_cube),
  (76, .iaload, 1, 0, 0, 0, [], none),
  (77, .if_icmp .ge 7, 3, 0, 0, 0, [84], none),
  (80, .iload 5, 2, 0, 0, 0, [], none),
  (82, .istore 4, 2, 0, 0, 0, [], none),
  (84, .iinc 5 1, 3, 0, 0, 0, [], none),
  (87, .goto (-53), 3, 0, 0, 0, [34], none),
  (90, .aload_n 0, 1, 0, 0, 0, [], none),
  (91, .iload 4, 2, 0, 0, 0, [], none),
  (93, .invokevirtual 255, 3, 0, 0, 0, [], some mX9_good),
  (96, .ireturn, 1, 0, 0, 0, [], none)]
set_option maxRecDepth 100000 in
theorem kX9_second : ab_def_ok mX9_second rX9_second := ⟨ab_mok_of 1581 110 1579 1580 (by decide +kernel), [0, 0, 1202, 0, 0, 0, 1554, 0, 0, 0, 1371, 0, 0, 0, 0, 1511, 0, 0, 0, 0, 0, 0, 0, 0, 0, 0, 0, 0, 0, 0, 0, 1229, 0, 0, 0, 1480, 0, 0, 1229, 0, 0, 0, 1480, 0, 0, 0, 0, 0, 0, 0, 0, 1519, 0], by decide +kernel⟩
set_option maxRecDepth 100000 in
theorem vX9_second_0 {x : ab_Cx} {d mc ms : Nat} {Post : Option ab_V → List ab_Ob → Prop} (hx : ab_At x mX9_second d mc ms Post) (a1 a2 : Int) (w0 : ab_Ob) (kc ks : Nat)
    (h : (∃ r1 : Int, ab_Calls d 0 0 mX9_isSpan [ab_O 0, ab_I a1, ab_I a2] [(ab_pf w0 0 0)] (some (ab_I r1)) [(ab_pf w0 0 0)] ∧ ((¬ r1 = 0 → (∃ r2 : Int, ab_Calls d 0 0 mX9_headOf [ab_O 0, ab_I a1, ab_I a2] [(ab_pf w0 0 0)] (some (ab_I r2)) [(ab_pf w0 0 0)] ∧ ab_J x 34 [some (ab_O 0), some (ab_I a1), some (ab_I a2), some (ab_I r2), some (ab_I (-2)), some (ab_I a1)] [] [(ab_pf w0 0 0)] kc ks)) ∧ (r1 = 0 → (∃ r3 : Int, ∃ v4 : ab_Ob, ab_Calls d 0 0 mX9_refused [ab_O 0, ab_I 1] [(ab_pf w0 0 0)] (some (ab_I r3)) [v4] ∧ Post (some (ab_I r3)) [v4]))))) :
    ab_J x 0 [some (ab_O 0), some (ab_I a1), some (ab_I a2), none, none, none] [] [w0] kc ks := ab_go hx kX9_second.2 22 [(34, [true, true, true, true, true, true])] 0 h
set_option maxRecDepth 100000 in
theorem vX9_second_34 {x : ab_Cx} {d mc ms : Nat} {Post : Option ab_V → List ab_Ob → Prop} (hx : ab_At x mX9_second d mc ms Post) (l1 l2 l3 l4 l5 : Int) (w0 : ab_Ob) (kc ks : Nat)
    (h : ((l2 < l5 → (∃ r1 : Int, ∃ v2 : ab_Ob, ab_Calls d 0 0 mX9_good [ab_O 0, ab_I l4] [w0] (some (ab_I r1)) [v2] ∧ Post (some (ab_I r1)) [v2])) ∧ (¬ l2 < l5 → ((l5 = l3 → ((-2147483648 ≤ l5 + 1 ∧ l5 + 1 ≤ 2147483647) ∧ ab_J x 34 [some (ab_O 0), some (ab_I l1), some (ab_I l2), some (ab_I l3), some (ab_I l4), some (ab_I (l5 + 1))] [] [w0] kc ks)) ∧ (¬ l5 = l3 → ((l4 = (-2) → ((-2147483648 ≤ l5 + 1 ∧ l5 + 1 ≤ 2147483647) ∧ ab_J x 34 [some (ab_O 0), some (ab_I l1), some (ab_I l2), some (ab_I l3), some (ab_I l5), some (ab_I (l5 + 1))] [] [w0] kc ks)) ∧ (¬ l4 = (-2) → (∃ r3 : Int, ab_Calls d 0 0 mX9_cube [ab_I l1, ab_I l2, ab_I l5] [] (some (ab_I r3)) [] ∧ ((0 ≤ r3 ∧ r3 < (w0.2 27).1) ∧ (∃ r4 : Int, ab_Calls d 0 0 mX9_cube [ab_I l1, ab_I l2, ab_I l4] [] (some (ab_I r4)) [] ∧ ((0 ≤ r4 ∧ r4 < (w0.2 27).1) ∧ ((((w0.2 27).2 r4) ≤ ((w0.2 27).2 r3) → ((-2147483648 ≤ l5 + 1 ∧ l5 + 1 ≤ 2147483647) ∧ ab_J x 34 [some (ab_O 0), some (ab_I l1), some (ab_I l2), some (ab_I l3), some (ab_I l4), some (ab_I (l5 + 1))] [] [w0] kc ks)) ∧ (¬ ((w0.2 27).2 r4) ≤ ((w0.2 27).2 r3) → ((-2147483648 ≤ l5 + 1 ∧ l5 + 1 ≤ 2147483647) ∧ ab_J x 34 [some (ab_O 0), some (ab_I l1), some (ab_I l2), some (ab_I l3), some (ab_I l5), some (ab_I (l5 + 1))] [] [w0] kc ks)))))))))))))) :
    ab_J x 34 [some (ab_O 0), some (ab_I l1), some (ab_I l2), some (ab_I l3), some (ab_I l4), some (ab_I l5)] [] [w0] kc ks := ab_go hx kX9_second.2 33 [(34, [true, true, true, true, true, true])] 34 h
def mX9_broken : ab_M := ((yX9_broken, cX9_broken, 6, (some .int)), ([9], [(0, 0)], [true], false, false, 0), (false, 9, 5))
def rX9_broken : List ab_R := [(0, .aload_n 0, 1, 0, 0, 0, [], none),
  (1, .iconst 0, 1, 0, 0, 0, [], none),
  (2, .putfield 100, 3, 9, 0, 0, [], none),
  (5, .aload_n 0, 1, 0, 0, 0, [], none),
  (6, .iload_n 2, 1, 0, 0, 0, [], none),
  (7, .invokevirtual 307, 3, 0, 0, 0, [], some mX9_isNote),
  (10, .ifCond .eq 23, 3, 0, 0, 0, [33], none),
  (13, .aload_n 0, 1, 0, 0, 0, [], none),
  (14, .iload_n 3, 1, 0, 0, 0, [], none),
  (15, .invokevirtual 307, 3, 0, 0, 0, [], some mX9_isNote),
  (18, .ifCond .eq 15, 3, 0, 0, 0, [33], none),
  (21, .iload_n 2, 1, 0, 0, 0, [], none),
  (22, .iload_n 3, 1, 0, 0, 0, [], none),
  (23, .if_icmp .eq 10, 3, 0, 0, 0, [33], none),
  (26, .iload_n 1, 1, 0, 0, 0, [], none),
  (27, .invokestatic 311, 3, 0, 0, 0, [], some mX9_isRule),
  (30, .ifCond .ne 9, 3, 0, 0, 0, [39], none),
  (33, .aload_n 0, 1, 0, 0, 0, [], none),
  (34, .iconst 1, 1, 0, 0, 0, [], none),
  (35, .invokevirtual 229, 3, 0, 0, 0, [], some mX9_refused),
  (38, .ireturn, 1, 0, 0, 0, [], none),
  (39, .iload 4, 2, 0, 0, 0, [], none),
  (41, .iconst 1, 1, 0, 0, 0, [], none),
  (42, .bipush 23, 2, 0, 0, 0, [], none),
  (44, .invokestatic 125, 3, 0, 0, 0, [], some mX9_in),
  (47, .ifCond .eq 14, 3, 0, 0, 0, [61], none),
  (50, .iload 5, 2, 0, 0, 0, [], none),
  (52, .iconst 1, 1, 0, 0, 0, [], none),
  (53, .bipush 23, 2, 0, 0, 0, [], none),
  (55, .invokestatic 125, 3, 0, 0, 0, [], some mX9_in),
  (58, .ifCond .ne 9, 3, 0, 0, 0, [67], none),
  (61, .aload_n 0, 1, 0, 0, 0, [], none),
  (62, .iconst 2, 1, 0, 0, 0, [], none),
  (63, .invokevirtual 229, 3, 0, 0, 0, [], some mX9_refused),
  (66, .ireturn, 1, 0, 0, 0, [], none),
  (67, .aload_n 0, 1, 0, 0, 0, [], none),
  (68, .aload_n 0, 1, 0, 0, 0, [], none),
  (69, .iload_n 1, 1, 0, 0, 0, [], none),
  (70, .iload_n 2, 1, 0, 0, 0, [], none),
  (71, .iload_n 3, 1, 0, 0, 0, [], none),
  (72, .iload 4, 2, 0, 0, 0, [], none),
  (74, .iload 5, 2, 0, 0, 0, [], none),
  (76, .invokevirtual 273, 3, 0, 0, 0, [], some mX9_brokenBy),
  (79, .invokevirtual 255, 3, 0, 0, 0, [], some mX9_good),
  (82, .ireturn, 1, 0, 0, 0, [], none)]
set_option maxRecDepth 100000 in
theorem kX9_broken : ab_def_ok mX9_broken rX9_broken := ⟨ab_mok_of 1585 110 1583 1584 (by decide +kernel), [0, 0, 1202, 0, 0, 1539, 0, 0, 0, 1539, 0, 0, 0, 0, 0, 1547, 0, 0, 0, 1371, 0, 0, 0, 0, 1387, 0, 0, 0, 0, 1387, 0, 0, 0, 1371, 0, 0, 0, 0, 0, 0, 0, 0, 1496, 1519, 0], by decide +kernel⟩
set_option maxRecDepth 100000 in
theorem vX9_broken_0 {x : ab_Cx} {d mc ms : Nat} {Post : Option ab_V → List ab_Ob → Prop} (hx : ab_At x mX9_broken d mc ms Post) (a1 a2 a3 a4 a5 : Int) (w0 : ab_Ob) (kc ks : Nat)
    (h : (∃ r1 : Int, ab_Calls d 0 0 mX9_isNote [ab_O 0, ab_I a2] [(ab_pf w0 0 0)] (some (ab_I r1)) [(ab_pf w0 0 0)] ∧ ((r1 = 0 → (∃ r2 : Int, ∃ v3 : ab_Ob, ab_Calls d 0 0 mX9_refused [ab_O 0, ab_I 1] [(ab_pf w0 0 0)] (some (ab_I r2)) [v3] ∧ Post (some (ab_I r2)) [v3])) ∧ (¬ r1 = 0 → (∃ r4 : Int, ab_Calls d 0 0 mX9_isNote [ab_O 0, ab_I a3] [(ab_pf w0 0 0)] (some (ab_I r4)) [(ab_pf w0 0 0)] ∧ ((r4 = 0 → (∃ r5 : Int, ∃ v6 : ab_Ob, ab_Calls d 0 0 mX9_refused [ab_O 0, ab_I 1] [(ab_pf w0 0 0)] (some (ab_I r5)) [v6] ∧ Post (some (ab_I r5)) [v6])) ∧ (¬ r4 = 0 → ((a2 = a3 → (∃ r7 : Int, ∃ v8 : ab_Ob, ab_Calls d 0 0 mX9_refused [ab_O 0, ab_I 1] [(ab_pf w0 0 0)] (some (ab_I r7)) [v8] ∧ Post (some (ab_I r7)) [v8])) ∧ (¬ a2 = a3 → (∃ r9 : Int, ab_Calls d 0 0 mX9_isRule [ab_I a1] [] (some (ab_I r9)) [] ∧ ((¬ r9 = 0 → (∃ r10 : Int, ab_Calls d 0 0 mX9_in [ab_I a4, ab_I 1, ab_I 23] [] (some (ab_I r10)) [] ∧ ((r10 = 0 → (∃ r11 : Int, ∃ v12 : ab_Ob, ab_Calls d 0 0 mX9_refused [ab_O 0, ab_I 2] [(ab_pf w0 0 0)] (some (ab_I r11)) [v12] ∧ Post (some (ab_I r11)) [v12])) ∧ (¬ r10 = 0 → (∃ r13 : Int, ab_Calls d 0 0 mX9_in [ab_I a5, ab_I 1, ab_I 23] [] (some (ab_I r13)) [] ∧ ((¬ r13 = 0 → (∃ r14 : Int, ab_Calls d 0 0 mX9_brokenBy [ab_O 0, ab_I a1, ab_I a2, ab_I a3, ab_I a4, ab_I a5] [(ab_pf w0 0 0)] (some (ab_I r14)) [(ab_pf w0 0 0)] ∧ (∃ r15 : Int, ∃ v16 : ab_Ob, ab_Calls d 0 0 mX9_good [ab_O 0, ab_I r14] [(ab_pf w0 0 0)] (some (ab_I r15)) [v16] ∧ Post (some (ab_I r15)) [v16]))) ∧ (r13 = 0 → (∃ r17 : Int, ∃ v18 : ab_Ob, ab_Calls d 0 0 mX9_refused [ab_O 0, ab_I 2] [(ab_pf w0 0 0)] (some (ab_I r17)) [v18] ∧ Post (some (ab_I r17)) [v18])))))))) ∧ (r9 = 0 → (∃ r19 : Int, ∃ v20 : ab_Ob, ab_Calls d 0 0 mX9_refused [ab_O 0, ab_I 1] [(ab_pf w0 0 0)] (some (ab_I r19)) [v20] ∧ Post (some (ab_I r19)) [v20]))))))))))))) :
    ab_J x 0 [some (ab_O 0), some (ab_I a1), some (ab_I a2), some (ab_I a3), some (ab_I a4), some (ab_I a5)] [] [w0] kc ks := ab_go hx kX9_broken.2 41 [] 0 h
def mX9_isJoining : ab_M := ((yX9_isJoining, cX9_isJoining, 2, (some .boolean)), ([9], [(0, 0)], [false], false, false, 0), (false, 9, 1))
def rX9_isJoining : List ab_R := [(0, .aload_n 0, 1, 0, 0, 0, [], none),
  (1, .getfield 46, 3, 9, 31, 0, [], none),
  (4, .iload_n 1, 1, 0, 0, 0, [], none),
  (5, .iaload, 1, 0, 0, 0, [], none),
  (6, .aload_n 0, 1, 0, 0, 0, [], none),
  (7, .getfield 49, 3, 9, 32, 0, [], none),
  (10, .iload_n 1, 1, 0, 0, 0, [], none),
  (11, .iaload, 1, 0, 0, 0, [], none),
  (12, .if_icmp .ge 7, 3, 0, 0, 0, [19], none),
  (15, .iconst 1, 1, 0, 0, 0, [], none),
  (16, .goto 4, 3, 0, 0, 0, [20], none),
  (19, .iconst 0, 1, 0, 0, 0, [], none),
  (20, .ireturn, 1, 0, 0, 0, [], none)]
set_option maxRecDepth 100000 in
theorem kX9_isJoining : ab_def_ok mX9_isJoining rX9_isJoining := ⟨ab_mok_of 1597 110 1596 80 (by decide +kernel), [0, 1233, 0, 0, 0, 1234, 0, 0, 0, 0, 0, 0, 0], by decide +kernel⟩
set_option maxRecDepth 100000 in
theorem vX9_isJoining_0 {x : ab_Cx} {d mc ms : Nat} {Post : Option ab_V → List ab_Ob → Prop} (hx : ab_At x mX9_isJoining d mc ms Post) (a1 : Int) (w0 : ab_Ob) (kc ks : Nat)
    (h : ((0 ≤ a1 ∧ a1 < (w0.2 31).1) ∧ ((0 ≤ a1 ∧ a1 < (w0.2 32).1) ∧ ((((w0.2 32).2 a1) ≤ ((w0.2 31).2 a1) → (((0 : Int) = 0 ∨ (0 : Int) = 1) ∧ Post (some (ab_I 0)) [w0])) ∧ (¬ ((w0.2 32).2 a1) ≤ ((w0.2 31).2 a1) → (((1 : Int) = 0 ∨ (1 : Int) = 1) ∧ Post (some (ab_I 1)) [w0])))))) :
    ab_J x 0 [some (ab_O 0), some (ab_I a1)] [] [w0] kc ks := ab_go hx kX9_isJoining.2 16 [] 0 h
def mX9_joiningAt : ab_M := ((yX9_joiningAt, cX9_joiningAt, 4, (some .int)), ([9], [(0, 0)], [false], false, false, 0), (false, 9, 1))
def rX9_joiningAt : List ab_R := [(0, .iconst 0, 1, 0, 0, 0, [], none),
  (1, .istore_n 2, 1, 0, 0, 0, [], none),
  (2, .iconst 0, 1, 0, 0, 0, [], none),
  (3, .istore_n 3, 1, 0, 0, 0, [], none),
  (4, .iload_n 3, 1, 0, 0, 0, [], none),
  (5, .aload_n 0, 1, 0, 0, 0, [], none),
  (6, .getfield 324, 3, 9, 40, 0, [], none),
  (9, .if_icmp .ge 30, 3, 0, 0, 0, [39], none),
  (12, .aload_n 0, 1, 0, 0, 0, [], none),
  (13, .iload_n 3, 1, 0, 0, 0, [], none),
  (14, .invokevirtual 331, 3, 0, 0, 0, [], some mX9_isJoining),
  (17, .ifCond .ne 6, 3, 0, 0, 0, [23], none),
  (20, .goto 13, 3, 0, 0, 0, [33], none),
  (23, .iload_n 2, 1, 0, 0, 0, [], none),
  (24, .iload_n 1, 1, 0, 0, 0, [], none),
  (25, .if_icmp .ne 5, 3, 0, 0, 0, [30], none),
  (28, .iload_n 3, 1, 0, 0, 0, [], none),
  (29, .ireturn, 1, 0, 0, 0, [], none),
  (30, .iinc 2 1, 3, 0, 0, 0, [], none),
  (33, .iinc 3 1, 3, 0, 0, 0, [], none),
  (36, .goto (-32), 3, 0, 0, 0, [4], none),
  (39, .iload_n 1, 1, 0, 0, 0, [], none),
  (40, .iconst (-1), 1, 0, 0, 0, [], none),
  (41, .if_icmp .ne 7, 3, 0, 0, 0, [48], none),
  (44, .iload_n 2, 1, 0, 0, 0, [], none),
  (45, .goto 4, 3, 0, 0, 0, [49], none),
  (48, .iconst (-1), 1, 0, 0, 0, [], none),
  (49, .ireturn, 1, 0, 0, 0, [], none)]
set_option maxRecDepth 100000 in
theorem kX9_joiningAt : ab_def_ok mX9_joiningAt rX9_joiningAt := ⟨ab_mok_of 1593 110 1592 79 (by decide +kernel), [0, 0, 0, 0, 0, 0, 1242, 0, 0, 0, 1594, 0, 0, 0, 0, 0, 0, 0, 0, 0, 0, 0, 0, 0, 0, 0, 0, 0], by decide +kernel⟩
set_option maxRecDepth 100000 in
theorem vX9_joiningAt_0 {x : ab_Cx} {d mc ms : Nat} {Post : Option ab_V → List ab_Ob → Prop} (hx : ab_At x mX9_joiningAt d mc ms Post) (a1 : Int) (w0 : ab_Ob) (kc ks : Nat)
    (h : ab_J x 4 [some (ab_O 0), some (ab_I a1), some (ab_I 0), some (ab_I 0)] [] [w0] kc ks) :
    ab_J x 0 [some (ab_O 0), some (ab_I a1), none, none] [] [w0] kc ks := ab_go hx kX9_joiningAt.2 9 [(4, [true, true, true, true])] 0 h
set_option maxRecDepth 100000 in
theorem vX9_joiningAt_4 {x : ab_Cx} {d mc ms : Nat} {Post : Option ab_V → List ab_Ob → Prop} (hx : ab_At x mX9_joiningAt d mc ms Post) (l1 l2 l3 : Int) (w0 : ab_Ob) (kc ks : Nat)
    (h : (((w0.1 40) ≤ l3 → ((¬ l1 = (-1) → Post (some (ab_I (-1))) [w0]) ∧ (l1 = (-1) → Post (some (ab_I l2)) [w0]))) ∧ (¬ (w0.1 40) ≤ l3 → (∃ r1 : Int, ab_Calls d 0 0 mX9_isJoining [ab_O 0, ab_I l3] [w0] (some (ab_I r1)) [w0] ∧ ((¬ r1 = 0 → ((¬ l2 = l1 → ((-2147483648 ≤ l2 + 1 ∧ l2 + 1 ≤ 2147483647) ∧ ((-2147483648 ≤ l3 + 1 ∧ l3 + 1 ≤ 2147483647) ∧ ab_J x 4 [some (ab_O 0), some (ab_I l1), some (ab_I (l2 + 1)), some (ab_I (l3 + 1))] [] [w0] kc ks))) ∧ (l2 = l1 → Post (some (ab_I l3)) [w0]))) ∧ (r1 = 0 → ((-2147483648 ≤ l3 + 1 ∧ l3 + 1 ≤ 2147483647) ∧ ab_J x 4 [some (ab_O 0), some (ab_I l1), some (ab_I l2), some (ab_I (l3 + 1))] [] [w0] kc ks))))))) :
    ab_J x 4 [some (ab_O 0), some (ab_I l1), some (ab_I l2), some (ab_I l3)] [] [w0] kc ks := ab_go hx kX9_joiningAt.2 19 [(4, [true, true, true, true])] 4 h
def mX9_splitAt : ab_M := ((yX9_splitAt, cX9_splitAt, 2, (some .int)), ([9], [(0, 0)], [false], false, false, 0), (false, 9, 1))
def rX9_splitAt : List ab_R := [(0, .aload_n 0, 1, 0, 0, 0, [], none),
  (1, .getfield 36, 3, 9, 28, 0, [], none),
  (4, .aload_n 0, 1, 0, 0, 0, [], none),
  (5, .getfield 46, 3, 9, 31, 0, [], none),
  (8, .iload_n 1, 1, 0, 0, 0, [], none),
  (9, .iaload, 1, 0, 0, 0, [], none),
  (10, .aload_n 0, 1, 0, 0, 0, [], none),
  (11, .getfield 49, 3, 9, 32, 0, [], none),
  (14, .iload_n 1, 1, 0, 0, 0, [], none),
  (15, .iaload, 1, 0, 0, 0, [], none),
  (16, .aload_n 0, 1, 0, 0, 0, [], none),
  (17, .getfield 52, 3, 9, 33, 0, [], none),
  (20, .iload_n 1, 1, 0, 0, 0, [], none),
  (21, .iaload, 1, 0, 0, 0, [], none),
  (22, .invokestatic 289, 3, 0, 0, 0, [], some mX9_cube),
  (25, .iaload, 1, 0, 0, 0, [], none),
  (26, .ireturn, 1, 0, 0, 0, [], none)]
set_option maxRecDepth 100000 in
theorem kX9_splitAt : ab_def_ok mX9_splitAt rX9_splitAt := ⟨ab_mok_of 1605 110 1604 81 (by decide +kernel), [0, 1230, 0, 1233, 0, 0, 0, 1234, 0, 0, 0, 1235, 0, 0, 1480, 0, 0], by decide +kernel⟩
set_option maxRecDepth 100000 in
theorem vX9_splitAt_0 {x : ab_Cx} {d mc ms : Nat} {Post : Option ab_V → List ab_Ob → Prop} (hx : ab_At x mX9_splitAt d mc ms Post) (a1 : Int) (w0 : ab_Ob) (kc ks : Nat)
    (h : ((0 ≤ a1 ∧ a1 < (w0.2 31).1) ∧ ((0 ≤ a1 ∧ a1 < (w0.2 32).1) ∧ ((0 ≤ a1 ∧ a1 < (w0.2 33).1) ∧ (∃ r1 : Int, ab_Calls d 0 0 mX9_cube [ab_I ((w0.2 31).2 a1), ab_I ((w0.2 32).2 a1), ab_I ((w0.2 33).2 a1)] [] (some (ab_I r1)) [] ∧ ((0 ≤ r1 ∧ r1 < (w0.2 28).1) ∧ Post (some (ab_I ((w0.2 28).2 r1))) [w0])))))) :
    ab_J x 0 [some (ab_O 0), some (ab_I a1)] [] [w0] kc ks := ab_go hx kX9_splitAt.2 21 [] 0 h
def mX9_underAt : ab_M := ((yX9_underAt, cX9_underAt, 2, (some .int)), ([9], [(0, 0)], [false], false, false, 0), (false, 9, 1))
def rX9_underAt : List ab_R := [(0, .aload_n 0, 1, 0, 0, 0, [], none),
  (1, .getfield 39, 3, 9, 29, 0, [], none),
  (4, .aload_n 0, 1, 0, 0, 0, [], none),
  (5, .getfield 46, 3, 9, 31, 0, [], none),
  (8, .iload_n 1, 1, 0, 0, 0, [], none),
  (9, .iaload, 1, 0, 0, 0, [], none),
  (10, .aload_n 0, 1, 0, 0, 0, [], none),
  (11, .getfield 49, 3, 9, 32, 0, [], none),
  (14, .iload_n 1, 1, 0, 0, 0, [], none),
  (15, .iaload, 1, 0, 0, 0, [], none),
  (16, .aload_n 0, 1, 0, 0, 0, [], none),
  (17, .getfield 52, 3, 9, 33, 0, [], none),
  (20, .iload_n 1, 1, 0, 0, 0, [], none),
  (21, .iaload, 1, 0, 0, 0, [], none),
  (22, .invokestatic 289, 3, 0, 0, 0, [], some mX9_cube),
  (25, .iaload, 1, 0, 0, 0, [], none),
  (26, .ireturn, 1, 0, 0, 0, [], none)]
set_option maxRecDepth 100000 in
theorem kX9_underAt : ab_def_ok mX9_underAt rX9_underAt := ⟨ab_mok_of 1609 110 1608 82 (by decide +kernel), [0, 1231, 0, 1233, 0, 0, 0, 1234, 0, 0, 0, 1235, 0, 0, 1480, 0, 0], by decide +kernel⟩
set_option maxRecDepth 100000 in
theorem vX9_underAt_0 {x : ab_Cx} {d mc ms : Nat} {Post : Option ab_V → List ab_Ob → Prop} (hx : ab_At x mX9_underAt d mc ms Post) (a1 : Int) (w0 : ab_Ob) (kc ks : Nat)
    (h : ((0 ≤ a1 ∧ a1 < (w0.2 31).1) ∧ ((0 ≤ a1 ∧ a1 < (w0.2 32).1) ∧ ((0 ≤ a1 ∧ a1 < (w0.2 33).1) ∧ (∃ r1 : Int, ab_Calls d 0 0 mX9_cube [ab_I ((w0.2 31).2 a1), ab_I ((w0.2 32).2 a1), ab_I ((w0.2 33).2 a1)] [] (some (ab_I r1)) [] ∧ ((0 ≤ r1 ∧ r1 < (w0.2 29).1) ∧ Post (some (ab_I ((w0.2 29).2 r1))) [w0])))))) :
    ab_J x 0 [some (ab_O 0), some (ab_I a1)] [] [w0] kc ks := ab_go hx kX9_underAt.2 21 [] 0 h
def mX9_breaksAt : ab_M := ((yX9_breaksAt, cX9_breaksAt, 5, (some .int)), ([9], [(0, 0)], [false], false, false, 0), (false, 9, 2))
def rX9_breaksAt : List ab_R := [(0, .aload_n 0, 1, 0, 0, 0, [], none),
  (1, .iload_n 1, 1, 0, 0, 0, [], none),
  (2, .invokevirtual 334, 3, 0, 0, 0, [], some mX9_splitAt),
  (5, .aload_n 0, 1, 0, 0, 0, [], none),
  (6, .getfield 46, 3, 9, 31, 0, [], none),
  (9, .iload_n 1, 1, 0, 0, 0, [], none),
  (10, .iaload, 1, 0, 0, 0, [], none),
  (11, .isub, 1, 0, 0, 0, [], none),
  (12, .iconst 1, 1, 0, 0, 0, [], none),
  (13, .iadd, 1, 0, 0, 0, [], none),
  (14, .istore_n 3, 1, 0, 0, 0, [], none),
  (15, .aload_n 0, 1, 0, 0, 0, [], none),
  (16, .getfield 49, 3, 9, 32, 0, [], none),
  (19, .iload_n 1, 1, 0, 0, 0, [], none),
  (20, .iaload, 1, 0, 0, 0, [], none),
  (21, .aload_n 0, 1, 0, 0, 0, [], none),
  (22, .iload_n 1, 1, 0, 0, 0, [], none),
  (23, .invokevirtual 334, 3, 0, 0, 0, [], some mX9_splitAt),
  (26, .isub, 1, 0, 0, 0, [], none),
  (27, .istore 4, 2, 0, 0, 0, [], none),
  (29, .iload_n 2, 1, 0, 0, 0, [], none),
  (30, .iconst (-1), 1, 0, 0, 0, [], none),
  (31, .if_icmp .ne 24, 3, 0, 0, 0, [55], none),
  (34, .aload_n 0, 1, 0, 0, 0, [], none),
  (35, .aload_n 0, 1, 0, 0, 0, [], none),
  (36, .getfield 52, 3, 9, 33, 0, [], none),
  (39, .iload_n 1, 1, 0, 0, 0, [], none),
  (40, .iaload, 1, 0, 0, 0, [], none),
  (41, .aload_n 0, 1, 0, 0, 0, [], none),
  (42, .iload_n 1, 1, 0, 0, 0, [], none),
  (43, .invokevirtual 337, 3, 0, 0, 0, [], some mX9_underAt),
  (46, .iload_n 3, 1, 0, 0, 0, [], none),
  (47, .iload 4, 2, 0, 0, 0, [], none),
  (49, .invokevirtual 298, 3, 0, 0, 0, [], some mX9_brokenAll),
  (52, .goto 22, 3, 0, 0, 0, [74], none),
  (55, .aload_n 0, 1, 0, 0, 0, [], none),
  (56, .iload_n 2, 1, 0, 0, 0, [], none),
  (57, .aload_n 0, 1, 0, 0, 0, [], none),
  (58, .getfield 52, 3, 9, 33, 0, [], none),
  (61, .iload_n 1, 1, 0, 0, 0, [], none),
  (62, .iaload, 1, 0, 0, 0, [], none),
  (63, .aload_n 0, 1, 0, 0, 0, [], none),
  (64, .iload_n 1, 1, 0, 0, 0, [], none),
  (65, .invokevirtual 337, 3, 0, 0, 0, [], some mX9_underAt),
  (68, .iload_n 3, 1, 0, 0, 0, [], none),
  (69, .iload 4, 2, 0, 0, 0, [], none),
  (71, .invokevirtual 273, 3, 0, 0, 0, [], some mX9_brokenBy),
  (74, .ireturn, 1, 0, 0, 0, [], none)]
set_option maxRecDepth 100000 in
theorem kX9_breaksAt : ab_def_ok mX9_breaksAt rX9_breaksAt := ⟨ab_mok_of 1613 110 1612 83 (by decide +kernel), [0, 0, 1602, 0, 1233, 0, 0, 0, 0, 0, 0, 0, 1234, 0, 0, 0, 0, 1602, 0, 0, 0, 0, 0, 0, 0, 1235, 0, 0, 0, 0, 1606, 0, 0, 1492, 0, 0, 0, 0, 1235, 0, 0, 0, 0, 1606, 0, 0, 1496, 0], by decide +kernel⟩
set_option maxRecDepth 100000 in
theorem vX9_breaksAt_0 {x : ab_Cx} {d mc ms : Nat} {Post : Option ab_V → List ab_Ob → Prop} (hx : ab_At x mX9_breaksAt d mc ms Post) (a1 a2 : Int) (w0 : ab_Ob) (kc ks : Nat)
    (h : (∃ r1 : Int, ab_Calls d 0 0 mX9_splitAt [ab_O 0, ab_I a1] [w0] (some (ab_I r1)) [w0] ∧ ((0 ≤ a1 ∧ a1 < (w0.2 31).1) ∧ ((-2147483648 ≤ r1 - ((w0.2 31).2 a1) ∧ r1 - ((w0.2 31).2 a1) ≤ 2147483647) ∧ ((-2147483648 ≤ (r1 - ((w0.2 31).2 a1)) + 1 ∧ (r1 - ((w0.2 31).2 a1)) + 1 ≤ 2147483647) ∧ ((0 ≤ a1 ∧ a1 < (w0.2 32).1) ∧ (∃ r2 : Int, ab_Calls d 0 0 mX9_splitAt [ab_O 0, ab_I a1] [w0] (some (ab_I r2)) [w0] ∧ ((-2147483648 ≤ ((w0.2 32).2 a1) - r2 ∧ ((w0.2 32).2 a1) - r2 ≤ 2147483647) ∧ ((¬ a2 = (-1) → ((0 ≤ a1 ∧ a1 < (w0.2 33).1) ∧ (∃ r3 : Int, ab_Calls d 0 0 mX9_underAt [ab_O 0, ab_I a1] [w0] (some (ab_I r3)) [w0] ∧ (∃ r4 : Int, ab_Calls d 0 0 mX9_brokenBy [ab_O 0, ab_I a2, ab_I ((w0.2 33).2 a1), ab_I r3, ab_I ((r1 - ((w0.2 31).2 a1)) + 1), ab_I (((w0.2 32).2 a1) - r2)] [w0] (some (ab_I r4)) [w0] ∧ Post (some (ab_I r4)) [w0])))) ∧ (a2 = (-1) → ((0 ≤ a1 ∧ a1 < (w0.2 33).1) ∧ (∃ r5 : Int, ab_Calls d 0 0 mX9_underAt [ab_O 0, ab_I a1] [w0] (some (ab_I r5)) [w0] ∧ (∃ r6 : Int, ab_Calls d 0 0 mX9_brokenAll [ab_O 0, ab_I ((w0.2 33).2 a1), ab_I r5, ab_I ((r1 - ((w0.2 31).2 a1)) + 1), ab_I (((w0.2 32).2 a1) - r2)] [w0] (some (ab_I r6)) [w0] ∧ Post (some (ab_I r6)) [w0]))))))))))))) :
    ab_J x 0 [some (ab_O 0), some (ab_I a1), some (ab_I a2), none, none] [] [w0] kc ks := ab_go hx kX9_breaksAt.2 40 [] 0 h
def mX9_joinings : ab_M := ((yX9_joinings, cX9_joinings, 1, (some .int)), ([9], [(0, 0)], [true], false, false, 0), (false, 9, 0))
def rX9_joinings : List ab_R := [(0, .aload_n 0, 1, 0, 0, 0, [], none),
  (1, .iconst 0, 1, 0, 0, 0, [], none),
  (2, .putfield 100, 3, 9, 0, 0, [], none),
  (5, .aload_n 0, 1, 0, 0, 0, [], none),
  (6, .getfield 235, 3, 9, 14, 0, [], none),
  (9, .ifCond .eq 15, 3, 0, 0, 0, [24], none),
  (12, .aload_n 0, 1, 0, 0, 0, [], none),
  (13, .aload_n 0, 1, 0, 0, 0, [], none),
  (14, .iconst (-1), 1, 0, 0, 0, [], none),
  (15, .invokevirtual 340, 3, 0, 0, 0, [], some mX9_joiningAt),
  (18, .invokevirtual 255, 3, 0, 0, 0, [], some mX9_good),
  (21, .goto 8, 3, 0, 0, 0, [29], none),
  (24, .aload_n 0, 1, 0, 0, 0, [], none),
  (25, .iconst 1, 1, 0, 0, 0, [], none),
  (26, .invokevirtual 229, 3, 0, 0, 0, [], some mX9_refused),
  (29, .ireturn, 1, 0, 0, 0, [], none)]
set_option maxRecDepth 100000 in
theorem kX9_joinings : ab_def_ok mX9_joinings rX9_joinings := ⟨ab_mok_of 1589 110 1587 1588 (by decide +kernel), [0, 0, 1202, 0, 1216, 0, 0, 0, 0, 1590, 1519, 0, 0, 0, 1371, 0], by decide +kernel⟩
set_option maxRecDepth 100000 in
theorem vX9_joinings_0 {x : ab_Cx} {d mc ms : Nat} {Post : Option ab_V → List ab_Ob → Prop} (hx : ab_At x mX9_joinings d mc ms Post) (w0 : ab_Ob) (kc ks : Nat)
    (h : (((w0.1 14) = 0 → (∃ r1 : Int, ∃ v2 : ab_Ob, ab_Calls d 0 0 mX9_refused [ab_O 0, ab_I 1] [(ab_pf w0 0 0)] (some (ab_I r1)) [v2] ∧ Post (some (ab_I r1)) [v2])) ∧ (¬ (w0.1 14) = 0 → (∃ r3 : Int, ab_Calls d 0 0 mX9_joiningAt [ab_O 0, ab_I (-1)] [(ab_pf w0 0 0)] (some (ab_I r3)) [(ab_pf w0 0 0)] ∧ (∃ r4 : Int, ∃ v5 : ab_Ob, ab_Calls d 0 0 mX9_good [ab_O 0, ab_I r3] [(ab_pf w0 0 0)] (some (ab_I r4)) [v5] ∧ Post (some (ab_I r4)) [v5]))))) :
    ab_J x 0 [some (ab_O 0)] [] [w0] kc ks := ab_go hx kX9_joinings.2 17 [] 0 h
def mX9_joining : ab_M := ((yX9_joining, cX9_joining, 4, (some .int)), ([9], [(0, 0)], [true], false, false, 0), (false, 9, 2))
def rX9_joining : List ab_R := [(0, .aload_n 0, 1, 0, 0, 0, [], none),
  (1, .iconst 0, 1, 0, 0, 0, [], none),
  (2, .putfield 100, 3, 9, 0, 0, [], none),
  (5, .aload_n 0, 1, 0, 0, 0, [], none),
  (6, .getfield 235, 3, 9, 14, 0, [], none),
  (9, .ifCond .eq 7, 3, 0, 0, 0, [16], none),
  (12, .iload_n 1, 1, 0, 0, 0, [], none),
  (13, .ifCond .ge 9, 3, 0, 0, 0, [22], none),
  (16, .aload_n 0, 1, 0, 0, 0, [], none),
  (17, .iconst 1, 1, 0, 0, 0, [], none),
  (18, .invokevirtual 229, 3, 0, 0, 0, [], some mX9_refused),
  (21, .ireturn, 1, 0, 0, 0, [], none),
  (22, .aload_n 0, 1, 0, 0, 0, [], none),
  (23, .iload_n 1, 1, 0, 0, 0, [], none),
  (24, .invokevirtual 340, 3, 0, 0, 0, [], some mX9_joiningAt),
  (27, .istore_n 3, 1, 0, 0, 0, [], none),
  (28, .iload_n 3, 1, 0, 0, 0, [], none),
  (29, .iconst (-1), 1, 0, 0, 0, [], none),
  (30, .if_icmp .ne 9, 3, 0, 0, 0, [39], none),
  (33, .aload_n 0, 1, 0, 0, 0, [], none),
  (34, .iconst 1, 1, 0, 0, 0, [], none),
  (35, .invokevirtual 229, 3, 0, 0, 0, [], some mX9_refused),
  (38, .ireturn, 1, 0, 0, 0, [], none),
  (39, .iload_n 2, 1, 0, 0, 0, [], none),
  (40, .tableswitch 119 0 6 #[44, 55, 66, 76, 87, 97, 108], 44, 0, 0, 0, [159, 84, 95, 106, 116, 127, 137, 148], none),
  (84, .aload_n 0, 1, 0, 0, 0, [], none),
  (85, .aload_n 0, 1, 0, 0, 0, [], none),
  (86, .getfield 46, 3, 9, 31, 0, [], none),
  (89, .iload_n 3, 1, 0, 0, 0, [], none),
  (90, .iaload, 1, 0, 0, 0, [], none),
  (91, .invokevirtual 255, 3, 0, 0, 0, [], some mX9_good),
  (94, .ireturn, 1, 0, 0, 0, [], none),
  (95, .aload_n 0, 1, 0, 0, 0, [], none),
  (96, .aload_n 0, 1, 0, 0, 0, [], none),
  (97, .getfield 49, 3, 9, 32, 0, [], none),
  (100, .iload_n 3, 1, 0, 0, 0, [], none),
  (101, .iaload, 1, 0, 0, 0, [], none),
  (102, .invokevirtual 255, 3, 0, 0, 0, [], some mX9_good),
  (105, .ireturn, 1, 0, 0, 0, [], none),
  (106, .aload_n 0, 1, 0, 0, 0, [], none),
  (107, .aload_n 0, 1, 0, 0, 0, [], none),
  (108, .iload_n 3, 1, 0, 0, 0, [], none),
  (109, .invokevirtual 334, 3, 0, 0, 0, [], some mX9_splitAt),
  (112, .invokevirtual 255, 3, 0, 0, 0, [], some mX9_good),
  (115, .ireturn, 1, 0, 0, 0, [], none),
  (116, .aload_n 0, 1, 0, 0, 0, [], none),
  (117, .aload_n 0, 1, 0, 0, 0, [], none),
  (118, .getfield 52, 3, 9, 33, 0, [], none),
  (121, .iload_n 3, 1, 0, 0, 0, [], none),
  (122, .iaload, 1, 0, 0, 0, [], none),
  (123, .invokevirtual 255, 3, 0, 0, 0, [], some mX9_good),
  (126, .ireturn, 1, 0, 0, 0, [], none),
  (127, .aload_n 0, 1, 0, 0, 0, [], none),
  (128, .aload_n 0, 1, 0, 0, 0, [], none),
  (129, .iload_n 3, 1, 0, 0, 0, [], none),
  (130, .invokevirtual 337, 3, 0, 0, 0, [], some mX9_underAt),
  (133, .invokevirtual 255, 3, 0, 0, 0, [], some mX9_good),
  (136, .ireturn, 1, 0, 0, 0, [], none),
  (137, .aload_n 0, 1, 0, 0, 0, [], none),
  (138, .aload_n 0, 1, 0, 0, 0, [], none),
  (139, .iload_n 3, 1, 0, 0, 0, [], none),
  (140, .iconst (-1), 1, 0, 0, 0, [], none),
  (141, .invokevirtual 343, 3, 0, 0, 0, [], some mX9_breaksAt),
  (144, .invokevirtual 255, 3, 0, 0, 0, [], some mX9_good),
  (147, .ireturn, 1, 0, 0, 0, [], none),
  (148, .aload_n 0, 1, 0, 0, 0, [], none),
  (149, .aload_n 0, 1, 0, 0, 0, [], none),
  (150, .getfield 55, 3, 9, 34, 0, [], none),
  (153, .iload_n 3, 1, 0, 0, 0, [], none),
  (154, .iaload, 1, 0, 0, 0, [], none),
  (155, .invokevirtual 255, 3, 0, 0, 0, [], some mX9_good),
  (158, .ireturn, 1, 0, 0, 0, [], none),
  (159, .aload_n 0, 1, 0, 0, 0, [], none),
  (160, .iconst 1, 1, 0, 0, 0, [], none),
  (161, .invokevirtual 229, 3, 0, 0, 0, [], some mX9_refused),
  (164, .ireturn, 1, 0, 0, 0, [], none)]
set_option maxRecDepth 100000 in
theorem kX9_joining : ab_def_ok mX9_joining rX9_joining := ⟨ab_mok_of 1601 110 1599 1600 (by decide +kernel), [0, 0, 1202, 0, 1216, 0, 0, 0, 0, 0, 1371, 0, 0, 0, 1590, 0, 0, 0, 0, 0, 0, 1371, 0, 0, 0, 0, 0, 1233, 0, 0, 1519, 0, 0, 0, 1234, 0, 0, 1519, 0, 0, 0, 0, 1602, 1519, 0, 0, 0, 1235, 0, 0, 1519, 0, 0, 0, 0, 1606, 1519, 0, 0, 0, 0, 0, 1610, 1519, 0, 0, 0, 1236, 0, 0, 1519, 0, 0, 0, 1371, 0], by decide +kernel⟩
set_option maxRecDepth 100000 in
theorem vX9_joining_0 {x : ab_Cx} {d mc ms : Nat} {Post : Option ab_V → List ab_Ob → Prop} (hx : ab_At x mX9_joining d mc ms Post) (a1 a2 : Int) (w0 : ab_Ob) (kc ks : Nat)
    (h : (((w0.1 14) = 0 → (∃ r1 : Int, ∃ v2 : ab_Ob, ab_Calls d 0 0 mX9_refused [ab_O 0, ab_I 1] [(ab_pf w0 0 0)] (some (ab_I r1)) [v2] ∧ Post (some (ab_I r1)) [v2])) ∧ (¬ (w0.1 14) = 0 → ((0 ≤ a1 → (∃ r3 : Int, ab_Calls d 0 0 mX9_joiningAt [ab_O 0, ab_I a1] [(ab_pf w0 0 0)] (some (ab_I r3)) [(ab_pf w0 0 0)] ∧ ((¬ r3 = (-1) → ((a2 < 0 ∨ 6 < a2 → (∃ r21 : Int, ∃ v22 : ab_Ob, ab_Calls d 0 0 mX9_refused [ab_O 0, ab_I 1] [(ab_pf w0 0 0)] (some (ab_I r21)) [v22] ∧ Post (some (ab_I r21)) [v22])) ∧ ((a2 = 0 → ((0 ≤ r3 ∧ r3 < (w0.2 31).1) ∧ (∃ r19 : Int, ∃ v20 : ab_Ob, ab_Calls d 0 0 mX9_good [ab_O 0, ab_I ((w0.2 31).2 r3)] [(ab_pf w0 0 0)] (some (ab_I r19)) [v20] ∧ Post (some (ab_I r19)) [v20]))) ∧ ((a2 = 1 → ((0 ≤ r3 ∧ r3 < (w0.2 32).1) ∧ (∃ r17 : Int, ∃ v18 : ab_Ob, ab_Calls d 0 0 mX9_good [ab_O 0, ab_I ((w0.2 32).2 r3)] [(ab_pf w0 0 0)] (some (ab_I r17)) [v18] ∧ Post (some (ab_I r17)) [v18]))) ∧ ((a2 = 2 → (∃ r14 : Int, ab_Calls d 0 0 mX9_splitAt [ab_O 0, ab_I r3] [(ab_pf w0 0 0)] (some (ab_I r14)) [(ab_pf w0 0 0)] ∧ (∃ r15 : Int, ∃ v16 : ab_Ob, ab_Calls d 0 0 mX9_good [ab_O 0, ab_I r14] [(ab_pf w0 0 0)] (some (ab_I r15)) [v16] ∧ Post (some (ab_I r15)) [v16]))) ∧ ((a2 = 3 → ((0 ≤ r3 ∧ r3 < (w0.2 33).1) ∧ (∃ r12 : Int, ∃ v13 : ab_Ob, ab_Calls d 0 0 mX9_good [ab_O 0, ab_I ((w0.2 33).2 r3)] [(ab_pf w0 0 0)] (some (ab_I r12)) [v13] ∧ Post (some (ab_I r12)) [v13]))) ∧ ((a2 = 4 → (∃ r9 : Int, ab_Calls d 0 0 mX9_underAt [ab_O 0, ab_I r3] [(ab_pf w0 0 0)] (some (ab_I r9)) [(ab_pf w0 0 0)] ∧ (∃ r10 : Int, ∃ v11 : ab_Ob, ab_Calls d 0 0 mX9_good [ab_O 0, ab_I r9] [(ab_pf w0 0 0)] (some (ab_I r10)) [v11] ∧ Post (some (ab_I r10)) [v11]))) ∧ ((a2 = 5 → (∃ r6 : Int, ab_Calls d 0 0 mX9_breaksAt [ab_O 0, ab_I r3, ab_I (-1)] [(ab_pf w0 0 0)] (some (ab_I r6)) [(ab_pf w0 0 0)] ∧ (∃ r7 : Int, ∃ v8 : ab_Ob, ab_Calls d 0 0 mX9_good [ab_O 0, ab_I r6] [(ab_pf w0 0 0)] (some (ab_I r7)) [v8] ∧ Post (some (ab_I r7)) [v8]))) ∧ ((a2 = 6 → ((0 ≤ r3 ∧ r3 < (w0.2 34).1) ∧ (∃ r4 : Int, ∃ v5 : ab_Ob, ab_Calls d 0 0 mX9_good [ab_O 0, ab_I ((w0.2 34).2 r3)] [(ab_pf w0 0 0)] (some (ab_I r4)) [v5] ∧ Post (some (ab_I r4)) [v5]))) ∧ True))))))))) ∧ (r3 = (-1) → (∃ r23 : Int, ∃ v24 : ab_Ob, ab_Calls d 0 0 mX9_refused [ab_O 0, ab_I 1] [(ab_pf w0 0 0)] (some (ab_I r23)) [v24] ∧ Post (some (ab_I r23)) [v24]))))) ∧ (¬ 0 ≤ a1 → (∃ r25 : Int, ∃ v26 : ab_Ob, ab_Calls d 0 0 mX9_refused [ab_O 0, ab_I 1] [(ab_pf w0 0 0)] (some (ab_I r25)) [v26] ∧ Post (some (ab_I r25)) [v26])))))) :
    ab_J x 0 [some (ab_O 0), some (ab_I a1), some (ab_I a2), none] [] [w0] kc ks := ab_go hx kX9_joining.2 28 [] 0 h
def mX9_breaksOf : ab_M := ((yX9_breaksOf, cX9_breaksOf, 4, (some .int)), ([9], [(0, 0)], [true], false, false, 0), (false, 9, 1))
def rX9_breaksOf : List ab_R := [(0, .aload_n 0, 1, 0, 0, 0, [], none),
  (1, .iconst 0, 1, 0, 0, 0, [], none),
  (2, .putfield 100, 3, 9, 0, 0, [], none),
  (5, .aload_n 0, 1, 0, 0, 0, [], none),
  (6, .getfield 235, 3, 9, 14, 0, [], none),
  (9, .ifCond .eq 10, 3, 0, 0, 0, [19], none),
  (12, .iload_n 1, 1, 0, 0, 0, [], none),
  (13, .invokestatic 311, 3, 0, 0, 0, [], some mX9_isRule),
  (16, .ifCond .ne 9, 3, 0, 0, 0, [25], none),
  (19, .aload_n 0, 1, 0, 0, 0, [], none),
  (20, .iconst 1, 1, 0, 0, 0, [], none),
  (21, .invokevirtual 229, 3, 0, 0, 0, [], some mX9_refused),
  (24, .ireturn, 1, 0, 0, 0, [], none),
  (25, .iconst 0, 1, 0, 0, 0, [], none),
  (26, .istore_n 2, 1, 0, 0, 0, [], none),
  (27, .iconst 0, 1, 0, 0, 0, [], none),
  (28, .istore_n 3, 1, 0, 0, 0, [], none),
  (29, .iload_n 3, 1, 0, 0, 0, [], none),
  (30, .aload_n 0, 1, 0, 0, 0, [], none),
  (31, .getfield 324, 3, 9, 40, 0, [], none),
  (34, .if_icmp .ge 30, 3, 0, 0, 0, [64], none),
  (37, .iload_n 2, 1, 0, 0, 0, [], none),
  (38, .aload_n 0, 1, 0, 0, 0, [], none),
  (39, .iload_n 3, 1, 0, 0, 0, [], none),
  (40, .invokevirtual 331, 3, 0, 0, 0, [], some mX9_isJoining),
  (43, .ifCond .eq 12, 3, 0, 0, 0, [55], none),
  (46, .aload_n 0, 1, 0, 0, 0, [], none),
  (47, .iload_n 3, 1, 0, 0, 0, [], none),
  (48, .iload_n 1, 1, 0, 0, 0, [], none),
  (49, .invokevirtual 343, 3, 0, 0, 0, [], some mX9_breaksAt),
  (52, .goto 4, 3, 0, 0, 0, [56], none),
  (55, .iconst 0, 1, 0, 0, 0, [], none),
  (56, .iadd, 1, 0, 0, 0, [], none),
  (57, .istore_n 2, 1, 0, 0, 0, [], none),
  (58, .iinc 3 1, 3, 0, 0, 0, [], none),
  (61, .goto (-32), 3, 0, 0, 0, [29], none),
  (64, .aload_n 0, 1, 0, 0, 0, [], none),
  (65, .iload_n 2, 1, 0, 0, 0, [], none),
  (66, .invokevirtual 255, 3, 0, 0, 0, [], some mX9_good),
  (69, .ireturn, 1, 0, 0, 0, [], none)]
set_option maxRecDepth 100000 in
theorem kX9_breaksOf : ab_def_ok mX9_breaksOf rX9_breaksOf := ⟨ab_mok_of 1617 110 1615 1616 (by decide +kernel), [0, 0, 1202, 0, 1216, 0, 0, 1547, 0, 0, 0, 1371, 0, 0, 0, 0, 0, 0, 0, 1242, 0, 0, 0, 0, 1594, 0, 0, 0, 0, 1610, 0, 0, 0, 0, 0, 0, 0, 0, 1519, 0], by decide +kernel⟩
set_option maxRecDepth 100000 in
theorem vX9_breaksOf_0 {x : ab_Cx} {d mc ms : Nat} {Post : Option ab_V → List ab_Ob → Prop} (hx : ab_At x mX9_breaksOf d mc ms Post) (a1 : Int) (w0 : ab_Ob) (kc ks : Nat)
    (h : (((w0.1 14) = 0 → (∃ r1 : Int, ∃ v2 : ab_Ob, ab_Calls d 0 0 mX9_refused [ab_O 0, ab_I 1] [(ab_pf w0 0 0)] (some (ab_I r1)) [v2] ∧ Post (some (ab_I r1)) [v2])) ∧ (¬ (w0.1 14) = 0 → (∃ r3 : Int, ab_Calls d 0 0 mX9_isRule [ab_I a1] [] (some (ab_I r3)) [] ∧ ((¬ r3 = 0 → ab_J x 29 [some (ab_O 0), some (ab_I a1), some (ab_I 0), some (ab_I 0)] [] [(ab_pf w0 0 0)] kc ks) ∧ (r3 = 0 → (∃ r4 : Int, ∃ v5 : ab_Ob, ab_Calls d 0 0 mX9_refused [ab_O 0, ab_I 1] [(ab_pf w0 0 0)] (some (ab_I r4)) [v5] ∧ Post (some (ab_I r4)) [v5]))))))) :
    ab_J x 0 [some (ab_O 0), some (ab_I a1), none, none] [] [w0] kc ks := ab_go hx kX9_breaksOf.2 18 [(29, [true, true, true, true])] 0 h
set_option maxRecDepth 100000 in
theorem vX9_breaksOf_29 {x : ab_Cx} {d mc ms : Nat} {Post : Option ab_V → List ab_Ob → Prop} (hx : ab_At x mX9_breaksOf d mc ms Post) (l1 l2 l3 : Int) (w0 : ab_Ob) (kc ks : Nat)
    (h : (((w0.1 40) ≤ l3 → (∃ r1 : Int, ∃ v2 : ab_Ob, ab_Calls d 0 0 mX9_good [ab_O 0, ab_I l2] [w0] (some (ab_I r1)) [v2] ∧ Post (some (ab_I r1)) [v2])) ∧ (¬ (w0.1 40) ≤ l3 → (∃ r3 : Int, ab_Calls d 0 0 mX9_isJoining [ab_O 0, ab_I l3] [w0] (some (ab_I r3)) [w0] ∧ ((r3 = 0 → ((-2147483648 ≤ l2 + 0 ∧ l2 + 0 ≤ 2147483647) ∧ ((-2147483648 ≤ l3 + 1 ∧ l3 + 1 ≤ 2147483647) ∧ ab_J x 29 [some (ab_O 0), some (ab_I l1), some (ab_I (l2 + 0)), some (ab_I (l3 + 1))] [] [w0] kc ks))) ∧ (¬ r3 = 0 → (∃ r4 : Int, ab_Calls d 0 0 mX9_breaksAt [ab_O 0, ab_I l3, ab_I l1] [w0] (some (ab_I r4)) [w0] ∧ ((-2147483648 ≤ l2 + r4 ∧ l2 + r4 ≤ 2147483647) ∧ ((-2147483648 ≤ l3 + 1 ∧ l3 + 1 ≤ 2147483647) ∧ ab_J x 29 [some (ab_O 0), some (ab_I l1), some (ab_I (l2 + r4)), some (ab_I (l3 + 1))] [] [w0] kc ks))))))))) :
    ab_J x 29 [some (ab_O 0), some (ab_I l1), some (ab_I l2), some (ab_I l3)] [] [w0] kc ks := ab_go hx kX9_breaksOf.2 23 [(29, [true, true, true, true])] 29 h
def mX9_deep : ab_M := ((yX9_deep, cX9_deep, 3, (some .int)), ([9], [(0, 0)], [false], false, false, 0), (false, 9, 0))
def rX9_deep : List ab_R := [(0, .iconst 0, 1, 0, 0, 0, [], none),
  (1, .istore_n 1, 1, 0, 0, 0, [], none),
  (2, .iconst 0, 1, 0, 0, 0, [], none),
  (3, .istore_n 2, 1, 0, 0, 0, [], none),
  (4, .iload_n 2, 1, 0, 0, 0, [], none),
  (5, .aload_n 0, 1, 0, 0, 0, [], none),
  (6, .getfield 324, 3, 9, 40, 0, [], none),
  (9, .if_icmp .ge 26, 3, 0, 0, 0, [35], none),
  (12, .aload_n 0, 1, 0, 0, 0, [], none),
  (13, .getfield 55, 3, 9, 34, 0, [], none),
  (16, .iload_n 2, 1, 0, 0, 0, [], none),
  (17, .iaload, 1, 0, 0, 0, [], none),
  (18, .iload_n 1, 1, 0, 0, 0, [], none),
  (19, .if_icmp .le 10, 3, 0, 0, 0, [29], none),
  (22, .aload_n 0, 1, 0, 0, 0, [], none),
  (23, .getfield 55, 3, 9, 34, 0, [], none),
  (26, .iload_n 2, 1, 0, 0, 0, [], none),
  (27, .iaload, 1, 0, 0, 0, [], none),
  (28, .istore_n 1, 1, 0, 0, 0, [], none),
  (29, .iinc 2 1, 3, 0, 0, 0, [], none),
  (32, .goto (-28), 3, 0, 0, 0, [4], none),
  (35, .iload_n 1, 1, 0, 0, 0, [], none),
  (36, .ireturn, 1, 0, 0, 0, [], none)]
set_option maxRecDepth 100000 in
theorem kX9_deep : ab_def_ok mX9_deep rX9_deep := ⟨ab_mok_of 1625 110 1624 84 (by decide +kernel), [0, 0, 0, 0, 0, 0, 1242, 0, 0, 1236, 0, 0, 0, 0, 0, 1236, 0, 0, 0, 0, 0, 0, 0], by decide +kernel⟩
set_option maxRecDepth 100000 in
theorem vX9_deep_0 {x : ab_Cx} {d mc ms : Nat} {Post : Option ab_V → List ab_Ob → Prop} (hx : ab_At x mX9_deep d mc ms Post) (w0 : ab_Ob) (kc ks : Nat)
    (h : ab_J x 4 [some (ab_O 0), some (ab_I 0), some (ab_I 0)] [] [w0] kc ks) :
    ab_J x 0 [some (ab_O 0), none, none] [] [w0] kc ks := ab_go hx kX9_deep.2 9 [(4, [true, true, true])] 0 h
set_option maxRecDepth 100000 in
theorem vX9_deep_4 {x : ab_Cx} {d mc ms : Nat} {Post : Option ab_V → List ab_Ob → Prop} (hx : ab_At x mX9_deep d mc ms Post) (l1 l2 : Int) (w0 : ab_Ob) (kc ks : Nat)
    (h : (((w0.1 40) ≤ l2 → Post (some (ab_I l1)) [w0]) ∧ (¬ (w0.1 40) ≤ l2 → ((0 ≤ l2 ∧ l2 < (w0.2 34).1) ∧ ((((w0.2 34).2 l2) ≤ l1 → ((-2147483648 ≤ l2 + 1 ∧ l2 + 1 ≤ 2147483647) ∧ ab_J x 4 [some (ab_O 0), some (ab_I l1), some (ab_I (l2 + 1))] [] [w0] kc ks)) ∧ (¬ ((w0.2 34).2 l2) ≤ l1 → ((0 ≤ l2 ∧ l2 < (w0.2 34).1) ∧ ((-2147483648 ≤ l2 + 1 ∧ l2 + 1 ≤ 2147483647) ∧ ab_J x 4 [some (ab_O 0), some (ab_I ((w0.2 34).2 l2)), some (ab_I (l2 + 1))] [] [w0] kc ks)))))))) :
    ab_J x 4 [some (ab_O 0), some (ab_I l1), some (ab_I l2)] [] [w0] kc ks := ab_go hx kX9_deep.2 22 [(4, [true, true, true])] 4 h
def mX9_deepest : ab_M := ((yX9_deepest, cX9_deepest, 1, (some .int)), ([9], [(0, 0)], [true], false, false, 0), (false, 9, 0))
def rX9_deepest : List ab_R := [(0, .aload_n 0, 1, 0, 0, 0, [], none),
  (1, .iconst 0, 1, 0, 0, 0, [], none),
  (2, .putfield 100, 3, 9, 0, 0, [], none),
  (5, .aload_n 0, 1, 0, 0, 0, [], none),
  (6, .getfield 235, 3, 9, 14, 0, [], none),
  (9, .ifCond .eq 14, 3, 0, 0, 0, [23], none),
  (12, .aload_n 0, 1, 0, 0, 0, [], none),
  (13, .aload_n 0, 1, 0, 0, 0, [], none),
  (14, .invokevirtual 346, 3, 0, 0, 0, [], some mX9_deep),
  (17, .invokevirtual 255, 3, 0, 0, 0, [], some mX9_good),
  (20, .goto 8, 3, 0, 0, 0, [28], none),
  (23, .aload_n 0, 1, 0, 0, 0, [], none),
  (24, .iconst 1, 1, 0, 0, 0, [], none),
  (25, .invokevirtual 229, 3, 0, 0, 0, [], some mX9_refused),
  (28, .ireturn, 1, 0, 0, 0, [], none)]
set_option maxRecDepth 100000 in
theorem kX9_deepest : ab_def_ok mX9_deepest rX9_deepest := ⟨ab_mok_of 1621 110 1619 1620 (by decide +kernel), [0, 0, 1202, 0, 1216, 0, 0, 0, 1622, 1519, 0, 0, 0, 1371, 0], by decide +kernel⟩
set_option maxRecDepth 100000 in
theorem vX9_deepest_0 {x : ab_Cx} {d mc ms : Nat} {Post : Option ab_V → List ab_Ob → Prop} (hx : ab_At x mX9_deepest d mc ms Post) (w0 : ab_Ob) (kc ks : Nat)
    (h : (((w0.1 14) = 0 → (∃ r1 : Int, ∃ v2 : ab_Ob, ab_Calls d 0 0 mX9_refused [ab_O 0, ab_I 1] [(ab_pf w0 0 0)] (some (ab_I r1)) [v2] ∧ Post (some (ab_I r1)) [v2])) ∧ (¬ (w0.1 14) = 0 → (∃ r3 : Int, ab_Calls d 0 0 mX9_deep [ab_O 0] [(ab_pf w0 0 0)] (some (ab_I r3)) [(ab_pf w0 0 0)] ∧ (∃ r4 : Int, ∃ v5 : ab_Ob, ab_Calls d 0 0 mX9_good [ab_O 0, ab_I r3] [(ab_pf w0 0 0)] (some (ab_I r4)) [v5] ∧ Post (some (ab_I r4)) [v5]))))) :
    ab_J x 0 [some (ab_O 0)] [] [w0] kc ks := ab_go hx kX9_deepest.2 16 [] 0 h
def mX9_isLevel : ab_M := ((yX9_isLevel, cX9_isLevel, 2, (some .boolean)), ([9], [(0, 0)], [false], false, false, 0), (false, 9, 1))
def rX9_isLevel : List ab_R := [(0, .iload_n 1, 1, 0, 0, 0, [], none),
  (1, .iconst 0, 1, 0, 0, 0, [], none),
  (2, .aload_n 0, 1, 0, 0, 0, [], none),
  (3, .invokevirtual 346, 3, 0, 0, 0, [], some mX9_deep),
  (6, .invokestatic 125, 3, 0, 0, 0, [], some mX9_in),
  (9, .ireturn, 1, 0, 0, 0, [], none)]
set_option maxRecDepth 100000 in
theorem kX9_isLevel : ab_def_ok mX9_isLevel rX9_isLevel := ⟨ab_mok_of 1633 110 1632 85 (by decide +kernel), [0, 0, 0, 1622, 1387, 0], by decide +kernel⟩
set_option maxRecDepth 100000 in
theorem vX9_isLevel_0 {x : ab_Cx} {d mc ms : Nat} {Post : Option ab_V → List ab_Ob → Prop} (hx : ab_At x mX9_isLevel d mc ms Post) (a1 : Int) (w0 : ab_Ob) (kc ks : Nat)
    (h : (∃ r1 : Int, ab_Calls d 0 0 mX9_deep [ab_O 0] [w0] (some (ab_I r1)) [w0] ∧ (∃ r2 : Int, ab_Calls d 0 0 mX9_in [ab_I a1, ab_I 0, ab_I r1] [] (some (ab_I r2)) [] ∧ ((r2 = 0 ∨ r2 = 1) ∧ Post (some (ab_I r2)) [w0])))) :
    ab_J x 0 [some (ab_O 0), some (ab_I a1)] [] [w0] kc ks := ab_go hx kX9_isLevel.2 10 [] 0 h
def mX9_isAt : ab_M := ((yX9_isAt, cX9_isAt, 3, (some .boolean)), ([9], [(0, 0)], [false], false, false, 0), (false, 9, 2))
def rX9_isAt : List ab_R := [(0, .aload_n 0, 1, 0, 0, 0, [], none),
  (1, .getfield 55, 3, 9, 34, 0, [], none),
  (4, .iload_n 1, 1, 0, 0, 0, [], none),
  (5, .iaload, 1, 0, 0, 0, [], none),
  (6, .iload_n 2, 1, 0, 0, 0, [], none),
  (7, .if_icmp .eq 21, 3, 0, 0, 0, [28], none),
  (10, .aload_n 0, 1, 0, 0, 0, [], none),
  (11, .getfield 55, 3, 9, 34, 0, [], none),
  (14, .iload_n 1, 1, 0, 0, 0, [], none),
  (15, .iaload, 1, 0, 0, 0, [], none),
  (16, .iload_n 2, 1, 0, 0, 0, [], none),
  (17, .if_icmp .ge 15, 3, 0, 0, 0, [32], none),
  (20, .aload_n 0, 1, 0, 0, 0, [], none),
  (21, .iload_n 1, 1, 0, 0, 0, [], none),
  (22, .invokevirtual 331, 3, 0, 0, 0, [], some mX9_isJoining),
  (25, .ifCond .ne 7, 3, 0, 0, 0, [32], none),
  (28, .iconst 1, 1, 0, 0, 0, [], none),
  (29, .goto 4, 3, 0, 0, 0, [33], none),
  (32, .iconst 0, 1, 0, 0, 0, [], none),
  (33, .ireturn, 1, 0, 0, 0, [], none)]
set_option maxRecDepth 100000 in
theorem kX9_isAt : ab_def_ok mX9_isAt rX9_isAt := ⟨ab_mok_of 1641 110 1640 87 (by decide +kernel), [0, 1236, 0, 0, 0, 0, 0, 1236, 0, 0, 0, 0, 0, 0, 1594, 0, 0, 0, 0, 0], by decide +kernel⟩
set_option maxRecDepth 100000 in
theorem vX9_isAt_0 {x : ab_Cx} {d mc ms : Nat} {Post : Option ab_V → List ab_Ob → Prop} (hx : ab_At x mX9_isAt d mc ms Post) (a1 a2 : Int) (w0 : ab_Ob) (kc ks : Nat)
    (h : ((0 ≤ a1 ∧ a1 < (w0.2 34).1) ∧ ((((w0.2 34).2 a1) = a2 → (((1 : Int) = 0 ∨ (1 : Int) = 1) ∧ Post (some (ab_I 1)) [w0])) ∧ (¬ ((w0.2 34).2 a1) = a2 → ((0 ≤ a1 ∧ a1 < (w0.2 34).1) ∧ ((a2 ≤ ((w0.2 34).2 a1) → (((0 : Int) = 0 ∨ (0 : Int) = 1) ∧ Post (some (ab_I 0)) [w0])) ∧ (¬ a2 ≤ ((w0.2 34).2 a1) → (∃ r1 : Int, ab_Calls d 0 0 mX9_isJoining [ab_O 0, ab_I a1] [w0] (some (ab_I r1)) [w0] ∧ ((¬ r1 = 0 → (((0 : Int) = 0 ∨ (0 : Int) = 1) ∧ Post (some (ab_I 0)) [w0])) ∧ (r1 = 0 → (((1 : Int) = 0 ∨ (1 : Int) = 1) ∧ Post (some (ab_I 1)) [w0]))))))))))) :
    ab_J x 0 [some (ab_O 0), some (ab_I a1), some (ab_I a2)] [] [w0] kc ks := ab_go hx kX9_isAt.2 23 [] 0 h
def mX9_levelAt : ab_M := ((yX9_levelAt, cX9_levelAt, 5, (some .int)), ([9], [(0, 0)], [false], false, false, 0), (false, 9, 2))
def rX9_levelAt : List ab_R := [(0, .iconst 0, 1, 0, 0, 0, [], none),
  (1, .istore_n 3, 1, 0, 0, 0, [], none),
  (2, .iconst 0, 1, 0, 0, 0, [], none),
  (3, .istore 4, 2, 0, 0, 0, [], none),
  (5, .iload 4, 2, 0, 0, 0, [], none),
  (7, .aload_n 0, 1, 0, 0, 0, [], none),
  (8, .getfield 324, 3, 9, 40, 0, [], none),
  (11, .if_icmp .ge 33, 3, 0, 0, 0, [44], none),
  (14, .aload_n 0, 1, 0, 0, 0, [], none),
  (15, .iload 4, 2, 0, 0, 0, [], none),
  (17, .iload_n 1, 1, 0, 0, 0, [], none),
  (18, .invokevirtual 349, 3, 0, 0, 0, [], some mX9_isAt),
  (21, .ifCond .ne 6, 3, 0, 0, 0, [27], none),
  (24, .goto 14, 3, 0, 0, 0, [38], none),
  (27, .iload_n 3, 1, 0, 0, 0, [], none),
  (28, .iload_n 2, 1, 0, 0, 0, [], none),
  (29, .if_icmp .ne 6, 3, 0, 0, 0, [35], none),
  (32, .iload 4, 2, 0, 0, 0, [], none),
  (34, .ireturn, 1, 0, 0, 0, [], none),
  (35, .iinc 3 1, 3, 0, 0, 0, [], none),
  (38, .iinc 4 1, 3, 0, 0, 0, [], none),
  (41, .goto (-36), 3, 0, 0, 0, [5], none),
  (44, .iload_n 2, 1, 0, 0, 0, [], none),
  (45, .iconst (-1), 1, 0, 0, 0, [], none),
  (46, .if_icmp .ne 7, 3, 0, 0, 0, [53], none),
  (49, .iload_n 3, 1, 0, 0, 0, [], none),
  (50, .goto 4, 3, 0, 0, 0, [54], none),
  (53, .iconst (-1), 1, 0, 0, 0, [], none),
  (54, .ireturn, 1, 0, 0, 0, [], none)]
set_option maxRecDepth 100000 in
theorem kX9_levelAt : ab_def_ok mX9_levelAt rX9_levelAt := ⟨ab_mok_of 1637 110 1636 86 (by decide +kernel), [0, 0, 0, 0, 0, 0, 1242, 0, 0, 0, 0, 1638, 0, 0, 0, 0, 0, 0, 0, 0, 0, 0, 0, 0, 0, 0, 0, 0, 0], by decide +kernel⟩
set_option maxRecDepth 100000 in
theorem vX9_levelAt_0 {x : ab_Cx} {d mc ms : Nat} {Post : Option ab_V → List ab_Ob → Prop} (hx : ab_At x mX9_levelAt d mc ms Post) (a1 a2 : Int) (w0 : ab_Ob) (kc ks : Nat)
    (h : ab_J x 5 [some (ab_O 0), some (ab_I a1), some (ab_I a2), some (ab_I 0), some (ab_I 0)] [] [w0] kc ks) :
    ab_J x 0 [some (ab_O 0), some (ab_I a1), some (ab_I a2), none, none] [] [w0] kc ks := ab_go hx kX9_levelAt.2 9 [(5, [true, true, true, true, true])] 0 h
set_option maxRecDepth 100000 in
theorem vX9_levelAt_5 {x : ab_Cx} {d mc ms : Nat} {Post : Option ab_V → List ab_Ob → Prop} (hx : ab_At x mX9_levelAt d mc ms Post) (l1 l2 l3 l4 : Int) (w0 : ab_Ob) (kc ks : Nat)
    (h : (((w0.1 40) ≤ l4 → ((¬ l2 = (-1) → Post (some (ab_I (-1))) [w0]) ∧ (l2 = (-1) → Post (some (ab_I l3)) [w0]))) ∧ (¬ (w0.1 40) ≤ l4 → (∃ r1 : Int, ab_Calls d 0 0 mX9_isAt [ab_O 0, ab_I l4, ab_I l1] [w0] (some (ab_I r1)) [w0] ∧ ((¬ r1 = 0 → ((¬ l3 = l2 → ((-2147483648 ≤ l3 + 1 ∧ l3 + 1 ≤ 2147483647) ∧ ((-2147483648 ≤ l4 + 1 ∧ l4 + 1 ≤ 2147483647) ∧ ab_J x 5 [some (ab_O 0), some (ab_I l1), some (ab_I l2), some (ab_I (l3 + 1)), some (ab_I (l4 + 1))] [] [w0] kc ks))) ∧ (l3 = l2 → Post (some (ab_I l4)) [w0]))) ∧ (r1 = 0 → ((-2147483648 ≤ l4 + 1 ∧ l4 + 1 ≤ 2147483647) ∧ ab_J x 5 [some (ab_O 0), some (ab_I l1), some (ab_I l2), some (ab_I l3), some (ab_I (l4 + 1))] [] [w0] kc ks))))))) :
    ab_J x 5 [some (ab_O 0), some (ab_I l1), some (ab_I l2), some (ab_I l3), some (ab_I l4)] [] [w0] kc ks := ab_go hx kX9_levelAt.2 20 [(5, [true, true, true, true, true])] 5 h
def mX9_level : ab_M := ((yX9_level, cX9_level, 2, (some .int)), ([9], [(0, 0)], [true], false, false, 0), (false, 9, 1))
def rX9_level : List ab_R := [(0, .aload_n 0, 1, 0, 0, 0, [], none),
  (1, .iconst 0, 1, 0, 0, 0, [], none),
  (2, .putfield 100, 3, 9, 0, 0, [], none),
  (5, .aload_n 0, 1, 0, 0, 0, [], none),
  (6, .getfield 235, 3, 9, 14, 0, [], none),
  (9, .ifCond .ne 9, 3, 0, 0, 0, [18], none),
  (12, .aload_n 0, 1, 0, 0, 0, [], none),
  (13, .iconst 1, 1, 0, 0, 0, [], none),
  (14, .invokevirtual 229, 3, 0, 0, 0, [], some mX9_refused),
  (17, .ireturn, 1, 0, 0, 0, [], none),
  (18, .aload_n 0, 1, 0, 0, 0, [], none),
  (19, .iload_n 1, 1, 0, 0, 0, [], none),
  (20, .invokevirtual 352, 3, 0, 0, 0, [], some mX9_isLevel),
  (23, .ifCond .eq 16, 3, 0, 0, 0, [39], none),
  (26, .aload_n 0, 1, 0, 0, 0, [], none),
  (27, .aload_n 0, 1, 0, 0, 0, [], none),
  (28, .iload_n 1, 1, 0, 0, 0, [], none),
  (29, .iconst (-1), 1, 0, 0, 0, [], none),
  (30, .invokevirtual 355, 3, 0, 0, 0, [], some mX9_levelAt),
  (33, .invokevirtual 255, 3, 0, 0, 0, [], some mX9_good),
  (36, .goto 8, 3, 0, 0, 0, [44], none),
  (39, .aload_n 0, 1, 0, 0, 0, [], none),
  (40, .iconst 2, 1, 0, 0, 0, [], none),
  (41, .invokevirtual 229, 3, 0, 0, 0, [], some mX9_refused),
  (44, .ireturn, 1, 0, 0, 0, [], none)]
set_option maxRecDepth 100000 in
theorem kX9_level : ab_def_ok mX9_level rX9_level := ⟨ab_mok_of 1629 110 1627 1628 (by decide +kernel), [0, 0, 1202, 0, 1216, 0, 0, 0, 1371, 0, 0, 0, 1630, 0, 0, 0, 0, 0, 1634, 1519, 0, 0, 0, 1371, 0], by decide +kernel⟩
set_option maxRecDepth 100000 in
theorem vX9_level_0 {x : ab_Cx} {d mc ms : Nat} {Post : Option ab_V → List ab_Ob → Prop} (hx : ab_At x mX9_level d mc ms Post) (a1 : Int) (w0 : ab_Ob) (kc ks : Nat)
    (h : ((¬ (w0.1 14) = 0 → (∃ r1 : Int, ab_Calls d 0 0 mX9_isLevel [ab_O 0, ab_I a1] [(ab_pf w0 0 0)] (some (ab_I r1)) [(ab_pf w0 0 0)] ∧ ((r1 = 0 → (∃ r2 : Int, ∃ v3 : ab_Ob, ab_Calls d 0 0 mX9_refused [ab_O 0, ab_I 2] [(ab_pf w0 0 0)] (some (ab_I r2)) [v3] ∧ Post (some (ab_I r2)) [v3])) ∧ (¬ r1 = 0 → (∃ r4 : Int, ab_Calls d 0 0 mX9_levelAt [ab_O 0, ab_I a1, ab_I (-1)] [(ab_pf w0 0 0)] (some (ab_I r4)) [(ab_pf w0 0 0)] ∧ (∃ r5 : Int, ∃ v6 : ab_Ob, ab_Calls d 0 0 mX9_good [ab_O 0, ab_I r4] [(ab_pf w0 0 0)] (some (ab_I r5)) [v6] ∧ Post (some (ab_I r5)) [v6])))))) ∧ ((w0.1 14) = 0 → (∃ r7 : Int, ∃ v8 : ab_Ob, ab_Calls d 0 0 mX9_refused [ab_O 0, ab_I 1] [(ab_pf w0 0 0)] (some (ab_I r7)) [v8] ∧ Post (some (ab_I r7)) [v8])))) :
    ab_J x 0 [some (ab_O 0), some (ab_I a1)] [] [w0] kc ks := ab_go hx kX9_level.2 22 [] 0 h
def mX9_levelNote : ab_M := ((yX9_levelNote, cX9_levelNote, 5, (some .int)), ([9], [(0, 0)], [true], false, false, 0), (false, 9, 3))
def rX9_levelNote : List ab_R := [(0, .aload_n 0, 1, 0, 0, 0, [], none),
  (1, .iconst 0, 1, 0, 0, 0, [], none),
  (2, .putfield 100, 3, 9, 0, 0, [], none),
  (5, .aload_n 0, 1, 0, 0, 0, [], none),
  (6, .getfield 235, 3, 9, 14, 0, [], none),
  (9, .ifCond .ne 9, 3, 0, 0, 0, [18], none),
  (12, .aload_n 0, 1, 0, 0, 0, [], none),
  (13, .iconst 1, 1, 0, 0, 0, [], none),
  (14, .invokevirtual 229, 3, 0, 0, 0, [], some mX9_refused),
  (17, .ireturn, 1, 0, 0, 0, [], none),
  (18, .aload_n 0, 1, 0, 0, 0, [], none),
  (19, .iload_n 1, 1, 0, 0, 0, [], none),
  (20, .invokevirtual 352, 3, 0, 0, 0, [], some mX9_isLevel),
  (23, .ifCond .ne 9, 3, 0, 0, 0, [32], none),
  (26, .aload_n 0, 1, 0, 0, 0, [], none),
  (27, .iconst 2, 1, 0, 0, 0, [], none),
  (28, .invokevirtual 229, 3, 0, 0, 0, [], some mX9_refused),
  (31, .ireturn, 1, 0, 0, 0, [], none),
  (32, .iload_n 2, 1, 0, 0, 0, [], none),
  (33, .iconst 0, 1, 0, 0, 0, [], none),
  (34, .aload_n 0, 1, 0, 0, 0, [], none),
  (35, .iload_n 1, 1, 0, 0, 0, [], none),
  (36, .iconst (-1), 1, 0, 0, 0, [], none),
  (37, .invokevirtual 355, 3, 0, 0, 0, [], some mX9_levelAt),
  (40, .iconst 1, 1, 0, 0, 0, [], none),
  (41, .isub, 1, 0, 0, 0, [], none),
  (42, .invokestatic 125, 3, 0, 0, 0, [], some mX9_in),
  (45, .ifCond .ne 9, 3, 0, 0, 0, [54], none),
  (48, .aload_n 0, 1, 0, 0, 0, [], none),
  (49, .iconst 1, 1, 0, 0, 0, [], none),
  (50, .invokevirtual 229, 3, 0, 0, 0, [], some mX9_refused),
  (53, .ireturn, 1, 0, 0, 0, [], none),
  (54, .aload_n 0, 1, 0, 0, 0, [], none),
  (55, .iload_n 1, 1, 0, 0, 0, [], none),
  (56, .iload_n 2, 1, 0, 0, 0, [], none),
  (57, .invokevirtual 355, 3, 0, 0, 0, [], some mX9_levelAt),
  (60, .istore 4, 2, 0, 0, 0, [], none),
  (62, .iload_n 3, 1, 0, 0, 0, [], none),
  (63, .tableswitch 83 0 2 #[25, 37, 53], 25, 0, 0, 0, [146, 88, 100, 116], none),
  (88, .aload_n 0, 1, 0, 0, 0, [], none),
  (89, .aload_n 0, 1, 0, 0, 0, [], none),
  (90, .getfield 52, 3, 9, 33, 0, [], none),
  (93, .iload 4, 2, 0, 0, 0, [], none),
  (95, .iaload, 1, 0, 0, 0, [], none),
  (96, .invokevirtual 255, 3, 0, 0, 0, [], some mX9_good),
  (99, .ireturn, 1, 0, 0, 0, [], none),
  (100, .aload_n 0, 1, 0, 0, 0, [], none),
  (101, .aload_n 0, 1, 0, 0, 0, [], none),
  (102, .aload_n 0, 1, 0, 0, 0, [], none),
  (103, .getfield 46, 3, 9, 31, 0, [], none),
  (106, .iload 4, 2, 0, 0, 0, [], none),
  (108, .iaload, 1, 0, 0, 0, [], none),
  (109, .invokevirtual 261, 3, 0, 0, 0, [], some mX9_beginOf),
  (112, .invokevirtual 255, 3, 0, 0, 0, [], some mX9_good),
  (115, .ireturn, 1, 0, 0, 0, [], none),
  (116, .aload_n 0, 1, 0, 0, 0, [], none),
  (117, .aload_n 0, 1, 0, 0, 0, [], none),
  (118, .aload_n 0, 1, 0, 0, 0, [], none),
  (119, .getfield 49, 3, 9, 32, 0, [], none),
  (122, .iload 4, 2, 0, 0, 0, [], none),
  (124, .iaload, 1, 0, 0, 0, [], none),
  (125, .iconst 1, 1, 0, 0, 0, [], none),
  (126, .iadd, 1, 0, 0, 0, [], none),
  (127, .invokevirtual 261, 3, 0, 0, 0, [], some mX9_beginOf),
  (130, .aload_n 0, 1, 0, 0, 0, [], none),
  (131, .aload_n 0, 1, 0, 0, 0, [], none),
  (132, .getfield 46, 3, 9, 31, 0, [], none),
  (135, .iload 4, 2, 0, 0, 0, [], none),
  (137, .iaload, 1, 0, 0, 0, [], none),
  (138, .invokevirtual 261, 3, 0, 0, 0, [], some mX9_beginOf),
  (141, .isub, 1, 0, 0, 0, [], none),
  (142, .invokevirtual 255, 3, 0, 0, 0, [], some mX9_good),
  (145, .ireturn, 1, 0, 0, 0, [], none),
  (146, .aload_n 0, 1, 0, 0, 0, [], none),
  (147, .iconst 1, 1, 0, 0, 0, [], none),
  (148, .invokevirtual 229, 3, 0, 0, 0, [], some mX9_refused),
  (151, .ireturn, 1, 0, 0, 0, [], none)]
set_option maxRecDepth 100000 in
theorem kX9_levelNote : ab_def_ok mX9_levelNote rX9_levelNote := ⟨ab_mok_of 1645 110 1643 1644 (by decide +kernel), [0, 0, 1202, 0, 1216, 0, 0, 0, 1371, 0, 0, 0, 1630, 0, 0, 0, 1371, 0, 0, 0, 0, 0, 0, 1634, 0, 0, 1387, 0, 0, 0, 1371, 0, 0, 0, 0, 1634, 0, 0, 0, 0, 0, 1235, 0, 0, 1519, 0, 0, 0, 0, 1233, 0, 0, 1460, 1519, 0, 0, 0, 0, 1234, 0, 0, 0, 0, 1460, 0, 0, 1233, 0, 0, 1460, 0, 1519, 0, 0, 0, 1371, 0], by decide +kernel⟩
set_option maxRecDepth 100000 in
theorem vX9_levelNote_0 {x : ab_Cx} {d mc ms : Nat} {Post : Option ab_V → List ab_Ob → Prop} (hx : ab_At x mX9_levelNote d mc ms Post) (a1 a2 a3 : Int) (w0 : ab_Ob) (kc ks : Nat)
    (h : ((¬ (w0.1 14) = 0 → (∃ r1 : Int, ab_Calls d 0 0 mX9_isLevel [ab_O 0, ab_I a1] [(ab_pf w0 0 0)] (some (ab_I r1)) [(ab_pf w0 0 0)] ∧ ((¬ r1 = 0 → (∃ r2 : Int, ab_Calls d 0 0 mX9_levelAt [ab_O 0, ab_I a1, ab_I (-1)] [(ab_pf w0 0 0)] (some (ab_I r2)) [(ab_pf w0 0 0)] ∧ ((-2147483648 ≤ r2 - 1 ∧ r2 - 1 ≤ 2147483647) ∧ (∃ r3 : Int, ab_Calls d 0 0 mX9_in [ab_I a2, ab_I 0, ab_I (r2 - 1)] [] (some (ab_I r3)) [] ∧ ((¬ r3 = 0 → (∃ r4 : Int, ab_Calls d 0 0 mX9_levelAt [ab_O 0, ab_I a1, ab_I a2] [(ab_pf w0 0 0)] (some (ab_I r4)) [(ab_pf w0 0 0)] ∧ ((a3 < 0 ∨ 2 < a3 → (∃ r14 : Int, ∃ v15 : ab_Ob, ab_Calls d 0 0 mX9_refused [ab_O 0, ab_I 1] [(ab_pf w0 0 0)] (some (ab_I r14)) [v15] ∧ Post (some (ab_I r14)) [v15])) ∧ ((a3 = 0 → ((0 ≤ r4 ∧ r4 < (w0.2 33).1) ∧ (∃ r12 : Int, ∃ v13 : ab_Ob, ab_Calls d 0 0 mX9_good [ab_O 0, ab_I ((w0.2 33).2 r4)] [(ab_pf w0 0 0)] (some (ab_I r12)) [v13] ∧ Post (some (ab_I r12)) [v13]))) ∧ ((a3 = 1 → ((0 ≤ r4 ∧ r4 < (w0.2 31).1) ∧ (∃ r9 : Int, ab_Calls d 0 0 mX9_beginOf [ab_O 0, ab_I ((w0.2 31).2 r4)] [(ab_pf w0 0 0)] (some (ab_I r9)) [(ab_pf w0 0 0)] ∧ (∃ r10 : Int, ∃ v11 : ab_Ob, ab_Calls d 0 0 mX9_good [ab_O 0, ab_I r9] [(ab_pf w0 0 0)] (some (ab_I r10)) [v11] ∧ Post (some (ab_I r10)) [v11])))) ∧ ((a3 = 2 → ((0 ≤ r4 ∧ r4 < (w0.2 32).1) ∧ ((-2147483648 ≤ ((w0.2 32).2 r4) + 1 ∧ ((w0.2 32).2 r4) + 1 ≤ 2147483647) ∧ (∃ r5 : Int, ab_Calls d 0 0 mX9_beginOf [ab_O 0, ab_I (((w0.2 32).2 r4) + 1)] [(ab_pf w0 0 0)] (some (ab_I r5)) [(ab_pf w0 0 0)] ∧ ((0 ≤ r4 ∧ r4 < (w0.2 31).1) ∧ (∃ r6 : Int, ab_Calls d 0 0 mX9_beginOf [ab_O 0, ab_I ((w0.2 31).2 r4)] [(ab_pf w0 0 0)] (some (ab_I r6)) [(ab_pf w0 0 0)] ∧ ((-2147483648 ≤ r5 - r6 ∧ r5 - r6 ≤ 2147483647) ∧ (∃ r7 : Int, ∃ v8 : ab_Ob, ab_Calls d 0 0 mX9_good [ab_O 0, ab_I (r5 - r6)] [(ab_pf w0 0 0)] (some (ab_I r7)) [v8] ∧ Post (some (ab_I r7)) [v8])))))))) ∧ True)))))) ∧ (r3 = 0 → (∃ r16 : Int, ∃ v17 : ab_Ob, ab_Calls d 0 0 mX9_refused [ab_O 0, ab_I 1] [(ab_pf w0 0 0)] (some (ab_I r16)) [v17] ∧ Post (some (ab_I r16)) [v17]))))))) ∧ (r1 = 0 → (∃ r18 : Int, ∃ v19 : ab_Ob, ab_Calls d 0 0 mX9_refused [ab_O 0, ab_I 2] [(ab_pf w0 0 0)] (some (ab_I r18)) [v19] ∧ Post (some (ab_I r18)) [v19]))))) ∧ ((w0.1 14) = 0 → (∃ r20 : Int, ∃ v21 : ab_Ob, ab_Calls d 0 0 mX9_refused [ab_O 0, ab_I 1] [(ab_pf w0 0 0)] (some (ab_I r20)) [v21] ∧ Post (some (ab_I r20)) [v21])))) :
    ab_J x 0 [some (ab_O 0), some (ab_I a1), some (ab_I a2), some (ab_I a3), none] [] [w0] kc ks := ab_go hx kX9_levelNote.2 49 [] 0 h
def mX9_path : ab_M := ((yX9_path, cX9_path, 5, (some .int)), ([9], [(0, 0)], [true], false, false, 0), (false, 9, 1))
def rX9_path : List ab_R := [(0, .aload_n 0, 1, 0, 0, 0, [], none),
  (1, .iconst 0, 1, 0, 0, 0, [], none),
  (2, .putfield 100, 3, 9, 0, 0, [], none),
  (5, .aload_n 0, 1, 0, 0, 0, [], none),
  (6, .getfield 235, 3, 9, 14, 0, [], none),
  (9, .ifCond .ne 9, 3, 0, 0, 0, [18], none),
  (12, .aload_n 0, 1, 0, 0, 0, [], none),
  (13, .iconst 1, 1, 0, 0, 0, [], none),
  (14, .invokevirtual 229, 3, 0, 0, 0, [], some mX9_refused),
  (17, .ireturn, 1, 0, 0, 0, [], none),
  (18, .aload_n 0, 1, 0, 0, 0, [], none),
  (19, .iload_n 1, 1, 0, 0, 0, [], none),
  (20, .invokevirtual 352, 3, 0, 0, 0, [], some mX9_isLevel),
  (23, .ifCond .ne 9, 3, 0, 0, 0, [32], none),
  (26, .aload_n 0, 1, 0, 0, 0, [], none),
  (27, .iconst 2, 1, 0, 0, 0, [], none),
  (28, .invokevirtual 229, 3, 0, 0, 0, [], some mX9_refused),
  (31, .ireturn, 1, 0, 0, 0, [], none),
  (32, .iconst 0, 1, 0, 0, 0, [], none),
  (33, .istore_n 2, 1, 0, 0, 0, [], none),
  (34, .aload_n 0, 1, 0, 0, 0, [], none),
  (35, .iload_n 1, 1, 0, 0, 0, [], none),
  (36, .iconst (-1), 1, 0, 0, 0, [], none),
  (37, .invokevirtual 355, 3, 0, 0, 0, [], some mX9_levelAt),
  (40, .istore_n 3, 1, 0, 0, 0, [], none),
  (41, .iconst 1, 1, 0, 0, 0, [], none),
  (42, .istore 4, 2, 0, 0, 0, [], none),
  (44, .iload 4, 2, 0, 0, 0, [], none),
  (46, .iload_n 3, 1, 0, 0, 0, [], none),
  (47, .if_icmp .ge 49, 3, 0, 0, 0, [96], none),
  (50, .iload_n 2, 1, 0, 0, 0, [], none),
  (51, .aload_n 0, 1, 0, 0, 0, [], none),
  (52, .aload_n 0, 1, 0, 0, 0, [], none),
  (53, .getfield 52, 3, 9, 33, 0, [], none),
  (56, .aload_n 0, 1, 0, 0, 0, [], none),
  (57, .iload_n 1, 1, 0, 0, 0, [], none),
  (58, .iload 4, 2, 0, 0, 0, [], none),
  (60, .invokevirtual 355, 3, 0, 0, 0, [], some mX9_levelAt),
  (63, .iaload, 1, 0, 0, 0, [], none),
  (64, .invokevirtual 264, 3, 0, 0, 0, [], some mX9_pitchOf),
  (67, .aload_n 0, 1, 0, 0, 0, [], none),
  (68, .aload_n 0, 1, 0, 0, 0, [], none),
  (69, .getfield 52, 3, 9, 33, 0, [], none),
  (72, .aload_n 0, 1, 0, 0, 0, [], none),
  (73, .iload_n 1, 1, 0, 0, 0, [], none),
  (74, .iload 4, 2, 0, 0, 0, [], none),
  (76, .iconst 1, 1, 0, 0, 0, [], none),
  (77, .isub, 1, 0, 0, 0, [], none),
  (78, .invokevirtual 355, 3, 0, 0, 0, [], some mX9_levelAt),
  (81, .iaload, 1, 0, 0, 0, [], none),
  (82, .invokevirtual 264, 3, 0, 0, 0, [], some mX9_pitchOf),
  (85, .invokestatic 270, 3, 0, 0, 0, [], some mX9_apart),
  (88, .iadd, 1, 0, 0, 0, [], none),
  (89, .istore_n 2, 1, 0, 0, 0, [], none),
  (90, .iinc 4 1, 3, 0, 0, 0, [], none),
  (93, .goto (-49), 3, 0, 0, 0, [44], none),
  (96, .aload_n 0, 1, 0, 0, 0, [], none),
  (97, .iload_n 2, 1, 0, 0, 0, [], none),
  (98, .invokevirtual 255, 3, 0, 0, 0, [], some mX9_good),
  (101, .ireturn, 1, 0, 0, 0, [], none)]
set_option maxRecDepth 100000 in
theorem kX9_path : ab_def_ok mX9_path rX9_path := ⟨ab_mok_of 1649 110 1647 1648 (by decide +kernel), [0, 0, 1202, 0, 1216, 0, 0, 0, 1371, 0, 0, 0, 1630, 0, 0, 0, 1371, 0, 0, 0, 0, 0, 0, 1634, 0, 0, 0, 0, 0, 0, 0, 0, 0, 1235, 0, 0, 0, 1634, 0, 1472, 0, 0, 1235, 0, 0, 0, 0, 0, 1634, 0, 1472, 1503, 0, 0, 0, 0, 0, 0, 1519, 0], by decide +kernel⟩
set_option maxRecDepth 100000 in
theorem vX9_path_0 {x : ab_Cx} {d mc ms : Nat} {Post : Option ab_V → List ab_Ob → Prop} (hx : ab_At x mX9_path d mc ms Post) (a1 : Int) (w0 : ab_Ob) (kc ks : Nat)
    (h : ((¬ (w0.1 14) = 0 → (∃ r1 : Int, ab_Calls d 0 0 mX9_isLevel [ab_O 0, ab_I a1] [(ab_pf w0 0 0)] (some (ab_I r1)) [(ab_pf w0 0 0)] ∧ ((¬ r1 = 0 → (∃ r2 : Int, ab_Calls d 0 0 mX9_levelAt [ab_O 0, ab_I a1, ab_I (-1)] [(ab_pf w0 0 0)] (some (ab_I r2)) [(ab_pf w0 0 0)] ∧ ab_J x 44 [some (ab_O 0), some (ab_I a1), some (ab_I 0), some (ab_I r2), some (ab_I 1)] [] [(ab_pf w0 0 0)] kc ks)) ∧ (r1 = 0 → (∃ r3 : Int, ∃ v4 : ab_Ob, ab_Calls d 0 0 mX9_refused [ab_O 0, ab_I 2] [(ab_pf w0 0 0)] (some (ab_I r3)) [v4] ∧ Post (some (ab_I r3)) [v4]))))) ∧ ((w0.1 14) = 0 → (∃ r5 : Int, ∃ v6 : ab_Ob, ab_Calls d 0 0 mX9_refused [ab_O 0, ab_I 1] [(ab_pf w0 0 0)] (some (ab_I r5)) [v6] ∧ Post (some (ab_I r5)) [v6])))) :
    ab_J x 0 [some (ab_O 0), some (ab_I a1), none, none, none] [] [w0] kc ks := ab_go hx kX9_path.2 24 [(44, [true, true, true, true, true])] 0 h
set_option maxRecDepth 100000 in
theorem vX9_path_44 {x : ab_Cx} {d mc ms : Nat} {Post : Option ab_V → List ab_Ob → Prop} (hx : ab_At x mX9_path d mc ms Post) (l1 l2 l3 l4 : Int) (w0 : ab_Ob) (kc ks : Nat)
    (h : ((l3 ≤ l4 → (∃ r1 : Int, ∃ v2 : ab_Ob, ab_Calls d 0 0 mX9_good [ab_O 0, ab_I l2] [w0] (some (ab_I r1)) [v2] ∧ Post (some (ab_I r1)) [v2])) ∧ (¬ l3 ≤ l4 → (∃ r3 : Int, ab_Calls d 0 0 mX9_levelAt [ab_O 0, ab_I l1, ab_I l4] [w0] (some (ab_I r3)) [w0] ∧ ((0 ≤ r3 ∧ r3 < (w0.2 33).1) ∧ (∃ r4 : Int, ab_Calls d 0 0 mX9_pitchOf [ab_O 0, ab_I ((w0.2 33).2 r3)] [w0] (some (ab_I r4)) [w0] ∧ ((-2147483648 ≤ l4 - 1 ∧ l4 - 1 ≤ 2147483647) ∧ (∃ r5 : Int, ab_Calls d 0 0 mX9_levelAt [ab_O 0, ab_I l1, ab_I (l4 - 1)] [w0] (some (ab_I r5)) [w0] ∧ ((0 ≤ r5 ∧ r5 < (w0.2 33).1) ∧ (∃ r6 : Int, ab_Calls d 0 0 mX9_pitchOf [ab_O 0, ab_I ((w0.2 33).2 r5)] [w0] (some (ab_I r6)) [w0] ∧ (∃ r7 : Int, ab_Calls d 0 0 mX9_apart [ab_I r4, ab_I r6] [] (some (ab_I r7)) [] ∧ ((-2147483648 ≤ l2 + r7 ∧ l2 + r7 ≤ 2147483647) ∧ ((-2147483648 ≤ l4 + 1 ∧ l4 + 1 ≤ 2147483647) ∧ ab_J x 44 [some (ab_O 0), some (ab_I l1), some (ab_I (l2 + r7)), some (ab_I l3), some (ab_I (l4 + 1))] [] [w0] kc ks))))))))))))) :
    ab_J x 44 [some (ab_O 0), some (ab_I l1), some (ab_I l2), some (ab_I l3), some (ab_I l4)] [] [w0] kc ks := ab_go hx kX9_path.2 34 [(44, [true, true, true, true, true])] 44 h
def mX9_over : ab_M := ((yX9_over, cX9_over, 6, (some .int)), ([9], [(0, 0)], [true], false, false, 0), (false, 9, 2))
def rX9_over : List ab_R := [(0, .aload_n 0, 1, 0, 0, 0, [], none),
  (1, .iconst 0, 1, 0, 0, 0, [], none),
  (2, .putfield 100, 3, 9, 0, 0, [], none),
  (5, .aload_n 0, 1, 0, 0, 0, [], none),
  (6, .iload_n 1, 1, 0, 0, 0, [], none),
  (7, .invokevirtual 307, 3, 0, 0, 0, [], some mX9_isNote),
  (10, .ifCond .eq 11, 3, 0, 0, 0, [21], none),
  (13, .aload_n 0, 1, 0, 0, 0, [], none),
  (14, .iload_n 2, 1, 0, 0, 0, [], none),
  (15, .invokevirtual 307, 3, 0, 0, 0, [], some mX9_isNote),
  (18, .ifCond .ne 9, 3, 0, 0, 0, [27], none),
  (21, .aload_n 0, 1, 0, 0, 0, [], none),
  (22, .iconst 1, 1, 0, 0, 0, [], none),
  (23, .invokevirtual 229, 3, 0, 0, 0, [], some mX9_refused),
  (26, .ireturn, 1, 0, 0, 0, [], none),
  (27, .iconst 0, 1, 0, 0, 0, [], none),
  (28, .istore_n 3, 1, 0, 0, 0, [], none),
  (29, .iconst 0, 1, 0, 0, 0, [], none),
  (30, .istore 4, 2, 0, 0, 0, [], none),
  (32, .iload 4, 2, 0, 0, 0, [], none),
  (34, .aload_n 0, 1, 0, 0, 0, [], none),
  (35, .getfield 324, 3, 9, 40, 0, [], none),
  (38, .if_icmp .ge 82, 3, 0, 0, 0, [120], none),
  (41, .iload_n 1, 1, 0, 0, 0, [], none),
  (42, .aload_n 0, 1, 0, 0, 0, [], none),
  (43, .getfield 46, 3, 9, 31, 0, [], none),
  (46, .iload 4, 2, 0, 0, 0, [], none),
  (48, .iaload, 1, 0, 0, 0, [], none),
  (49, .aload_n 0, 1, 0, 0, 0, [], none),
  (50, .getfield 49, 3, 9, 32, 0, [], none),
  (53, .iload 4, 2, 0, 0, 0, [], none),
  (55, .iaload, 1, 0, 0, 0, [], none),
  (56, .invokestatic 125, 3, 0, 0, 0, [], some mX9_in),
  (59, .ifCond .eq 28, 3, 0, 0, 0, [87], none),
  (62, .iload_n 2, 1, 0, 0, 0, [], none),
  (63, .aload_n 0, 1, 0, 0, 0, [], none),
  (64, .getfield 46, 3, 9, 31, 0, [], none),
  (67, .iload 4, 2, 0, 0, 0, [], none),
  (69, .iaload, 1, 0, 0, 0, [], none),
  (70, .aload_n 0, 1, 0, 0, 0, [], none),
  (71, .getfield 49, 3, 9, 32, 0, [], none),
  (74, .iload 4, 2, 0, 0, 0, [], none),
  (76, .iaload, 1, 0, 0, 0, [], none),
  (77, .invokestatic 125, 3, 0, 0, 0, [], some mX9_in),
  (80, .ifCond .eq 7, 3, 0, 0, 0, [87], none),
  (83, .iconst 1, 1, 0, 0, 0, [], none),
  (84, .goto 4, 3, 0, 0, 0, [88], none),
  (87, .iconst 0, 1, 0, 0, 0, [], none),
  (88, .istore 5, 2, 0, 0, 0, [], none),
  (90, .iload 5, 2, 0, 0, 0, [], none),
  (92, .ifCond .eq 22, 3, 0, 0, 0, [114], none),
  (95, .aload_n 0, 1, 0, 0, 0, [], none),
  (96, .getfield 55, 3, 9, 34, 0, [], none),
  (99, .iload 4, 2, 0, 0, 0, [], none),
  (101, .iaload, 1, 0, 0, 0, [], none),
  (102, .aload_n 0, 1, 0, 0, 0, [], none),
  (103, .getfield 55, 3, 9, 34, 0, [], none),
  (106, .iload_n 3, 1, 0, 0, 0, [], none),
  (107, .iaload, 1, 0, 0, 0, [], none),
  (108, .if_icmp .lt 6, 3, 0, 0, 0, [114], none),
  (111, .iload 4, 2, 0, 0, 0, [], none),
  (113, .istore_n 3, 1, 0, 0, 0, [], none),
  (114, .iinc 4 1, 3, 0, 0, 0, [], none),
  (117, .goto (-85), 3, 0, 0, 0, [32], none),
  (120, .aload_n 0, 1, 0, 0, 0, [], none),
  (121, .aload_n 0, 1, 0, 0, 0, [], none),
  (122, .getfield 52, 3, 9, 33, 0, [], none),
  (125, .iload_n 3, 1, 0, 0, 0, [], none),
  (126, .iaload, 1, 0, 0, 0, [], none),
  (127, .invokevirtual 255, 3, 0, 0, 0, [], some mX9_good),
  (130, .ireturn, 1, 0, 0, 0, [], none)]
set_option maxRecDepth 100000 in
theorem kX9_over : ab_def_ok mX9_over rX9_over := ⟨ab_mok_of 1653 110 1651 1652 (by decide +kernel), [0, 0, 1202, 0, 0, 1539, 0, 0, 0, 1539, 0, 0, 0, 1371, 0, 0, 0, 0, 0, 0, 0, 1242, 0, 0, 0, 1233, 0, 0, 0, 1234, 0, 0, 1387, 0, 0, 0, 1233, 0, 0, 0, 1234, 0, 0, 1387, 0, 0, 0, 0, 0, 0, 0, 0, 1236, 0, 0, 0, 1236, 0, 0, 0, 0, 0, 0, 0, 0, 0, 1235, 0, 0, 1519, 0], by decide +kernel⟩
set_option maxRecDepth 100000 in
theorem vX9_over_0 {x : ab_Cx} {d mc ms : Nat} {Post : Option ab_V → List ab_Ob → Prop} (hx : ab_At x mX9_over d mc ms Post) (a1 a2 : Int) (w0 : ab_Ob) (kc ks : Nat)
    (h : (∃ r1 : Int, ab_Calls d 0 0 mX9_isNote [ab_O 0, ab_I a1] [(ab_pf w0 0 0)] (some (ab_I r1)) [(ab_pf w0 0 0)] ∧ ((r1 = 0 → (∃ r2 : Int, ∃ v3 : ab_Ob, ab_Calls d 0 0 mX9_refused [ab_O 0, ab_I 1] [(ab_pf w0 0 0)] (some (ab_I r2)) [v3] ∧ Post (some (ab_I r2)) [v3])) ∧ (¬ r1 = 0 → (∃ r4 : Int, ab_Calls d 0 0 mX9_isNote [ab_O 0, ab_I a2] [(ab_pf w0 0 0)] (some (ab_I r4)) [(ab_pf w0 0 0)] ∧ ((¬ r4 = 0 → ab_J x 32 [some (ab_O 0), some (ab_I a1), some (ab_I a2), some (ab_I 0), some (ab_I 0), none] [] [(ab_pf w0 0 0)] kc ks) ∧ (r4 = 0 → (∃ r5 : Int, ∃ v6 : ab_Ob, ab_Calls d 0 0 mX9_refused [ab_O 0, ab_I 1] [(ab_pf w0 0 0)] (some (ab_I r5)) [v6] ∧ Post (some (ab_I r5)) [v6])))))))) :
    ab_J x 0 [some (ab_O 0), some (ab_I a1), some (ab_I a2), none, none, none] [] [w0] kc ks := ab_go hx kX9_over.2 20 [(32, [true, true, true, true, true, false])] 0 h
set_option maxRecDepth 100000 in
theorem vX9_over_32 {x : ab_Cx} {d mc ms : Nat} {Post : Option ab_V → List ab_Ob → Prop} (hx : ab_At x mX9_over d mc ms Post) (l1 l2 l3 l4 : Int) (w0 : ab_Ob) (kc ks : Nat)
    (h : (((w0.1 40) ≤ l4 → ((0 ≤ l3 ∧ l3 < (w0.2 33).1) ∧ (∃ r1 : Int, ∃ v2 : ab_Ob, ab_Calls d 0 0 mX9_good [ab_O 0, ab_I ((w0.2 33).2 l3)] [w0] (some (ab_I r1)) [v2] ∧ Post (some (ab_I r1)) [v2]))) ∧ (¬ (w0.1 40) ≤ l4 → ((0 ≤ l4 ∧ l4 < (w0.2 31).1) ∧ ((0 ≤ l4 ∧ l4 < (w0.2 32).1) ∧ (∃ r3 : Int, ab_Calls d 0 0 mX9_in [ab_I l1, ab_I ((w0.2 31).2 l4), ab_I ((w0.2 32).2 l4)] [] (some (ab_I r3)) [] ∧ ((r3 = 0 → (((0 : Int) = 0 → ((-2147483648 ≤ l4 + 1 ∧ l4 + 1 ≤ 2147483647) ∧ ab_J x 32 [some (ab_O 0), some (ab_I l1), some (ab_I l2), some (ab_I l3), some (ab_I (l4 + 1)), none] [] [w0] kc ks)) ∧ (¬ (0 : Int) = 0 → ((0 ≤ l4 ∧ l4 < (w0.2 34).1) ∧ ((0 ≤ l3 ∧ l3 < (w0.2 34).1) ∧ ((((w0.2 34).2 l4) < ((w0.2 34).2 l3) → ((-2147483648 ≤ l4 + 1 ∧ l4 + 1 ≤ 2147483647) ∧ ab_J x 32 [some (ab_O 0), some (ab_I l1), some (ab_I l2), some (ab_I l3), some (ab_I (l4 + 1)), none] [] [w0] kc ks)) ∧ (¬ ((w0.2 34).2 l4) < ((w0.2 34).2 l3) → ((-2147483648 ≤ l4 + 1 ∧ l4 + 1 ≤ 2147483647) ∧ ab_J x 32 [some (ab_O 0), some (ab_I l1), some (ab_I l2), some (ab_I l4), some (ab_I (l4 + 1)), none] [] [w0] kc ks)))))))) ∧ (¬ r3 = 0 → ((0 ≤ l4 ∧ l4 < (w0.2 31).1) ∧ ((0 ≤ l4 ∧ l4 < (w0.2 32).1) ∧ (∃ r4 : Int, ab_Calls d 0 0 mX9_in [ab_I l2, ab_I ((w0.2 31).2 l4), ab_I ((w0.2 32).2 l4)] [] (some (ab_I r4)) [] ∧ ((r4 = 0 → (((0 : Int) = 0 → ((-2147483648 ≤ l4 + 1 ∧ l4 + 1 ≤ 2147483647) ∧ ab_J x 32 [some (ab_O 0), some (ab_I l1), some (ab_I l2), some (ab_I l3), some (ab_I (l4 + 1)), none] [] [w0] kc ks)) ∧ (¬ (0 : Int) = 0 → ((0 ≤ l4 ∧ l4 < (w0.2 34).1) ∧ ((0 ≤ l3 ∧ l3 < (w0.2 34).1) ∧ ((((w0.2 34).2 l4) < ((w0.2 34).2 l3) → ((-2147483648 ≤ l4 + 1 ∧ l4 + 1 ≤ 2147483647) ∧ ab_J x 32 [some (ab_O 0), some (ab_I l1), some (ab_I l2), some (ab_I l3), some (ab_I (l4 + 1)), none] [] [w0] kc ks)) ∧ (¬ ((w0.2 34).2 l4) < ((w0.2 34).2 l3) → ((-2147483648 ≤ l4 + 1 ∧ l4 + 1 ≤ 2147483647) ∧ ab_J x 32 [some (ab_O 0), some (ab_I l1), some (ab_I l2), some (ab_I l4), some (ab_I (l4 + 1)), none] [] [w0] kc ks)))))))) ∧ (¬ r4 = 0 → (((1 : Int) = 0 → ((-2147483648 ≤ l4 + 1 ∧ l4 + 1 ≤ 2147483647) ∧ ab_J x 32 [some (ab_O 0), some (ab_I l1), some (ab_I l2), some (ab_I l3), some (ab_I (l4 + 1)), none] [] [w0] kc ks)) ∧ (¬ (1 : Int) = 0 → ((0 ≤ l4 ∧ l4 < (w0.2 34).1) ∧ ((0 ≤ l3 ∧ l3 < (w0.2 34).1) ∧ ((((w0.2 34).2 l4) < ((w0.2 34).2 l3) → ((-2147483648 ≤ l4 + 1 ∧ l4 + 1 ≤ 2147483647) ∧ ab_J x 32 [some (ab_O 0), some (ab_I l1), some (ab_I l2), some (ab_I l3), some (ab_I (l4 + 1)), none] [] [w0] kc ks)) ∧ (¬ ((w0.2 34).2 l4) < ((w0.2 34).2 l3) → ((-2147483648 ≤ l4 + 1 ∧ l4 + 1 ≤ 2147483647) ∧ ab_J x 32 [some (ab_O 0), some (ab_I l1), some (ab_I l2), some (ab_I l4), some (ab_I (l4 + 1)), none] [] [w0] kc ks)))))))))))))))))))) :
    ab_J x 32 [some (ab_O 0), some (ab_I l1), some (ab_I l2), some (ab_I l3), some (ab_I l4), none] [] [w0] kc ks := ab_go hx kX9_over.2 49 [(32, [true, true, true, true, true, false])] 32 h
def mX9_underOne : ab_M := ((yX9_underOne, cX9_underOne, 3, (some .int)), ([9], [(0, 0)], [false], false, false, 0), (false, 9, 1))
def rX9_underOne : List ab_R := [(0, .iconst 0, 1, 0, 0, 0, [], none),
  (1, .istore_n 2, 1, 0, 0, 0, [], none),
  (2, .iload_n 2, 1, 0, 0, 0, [], none),
  (3, .aload_n 0, 1, 0, 0, 0, [], none),
  (4, .getfield 324, 3, 9, 40, 0, [], none),
  (7, .if_icmp .ge 48, 3, 0, 0, 0, [55], none),
  (10, .aload_n 0, 1, 0, 0, 0, [], none),
  (11, .getfield 52, 3, 9, 33, 0, [], none),
  (14, .iload_n 2, 1, 0, 0, 0, [], none),
  (15, .iaload, 1, 0, 0, 0, [], none),
  (16, .iload_n 1, 1, 0, 0, 0, [], none),
  (17, .if_icmp .ne 32, 3, 0, 0, 0, [49], none),
  (20, .aload_n 0, 1, 0, 0, 0, [], none),
  (21, .getfield 55, 3, 9, 34, 0, [], none),
  (24, .iload_n 2, 1, 0, 0, 0, [], none),
  (25, .iaload, 1, 0, 0, 0, [], none),
  (26, .aload_n 0, 1, 0, 0, 0, [], none),
  (27, .getfield 58, 3, 9, 35, 0, [], none),
  (30, .iload_n 1, 1, 0, 0, 0, [], none),
  (31, .iaload, 1, 0, 0, 0, [], none),
  (32, .if_icmp .ne 17, 3, 0, 0, 0, [49], none),
  (35, .aload_n 0, 1, 0, 0, 0, [], none),
  (36, .getfield 49, 3, 9, 32, 0, [], none),
  (39, .iload_n 2, 1, 0, 0, 0, [], none),
  (40, .iaload, 1, 0, 0, 0, [], none),
  (41, .aload_n 0, 1, 0, 0, 0, [], none),
  (42, .getfield 46, 3, 9, 31, 0, [], none),
  (45, .iload_n 2, 1, 0, 0, 0, [], none),
  (46, .iaload, 1, 0, 0, 0, [], none),
  (47, .isub, 1, 0, 0, 0, [], none),
  (48, .ireturn, 1, 0, 0, 0, [], none),
  (49, .iinc 2 1, 3, 0, 0, 0, [], none),
  (52, .goto (-50), 3, 0, 0, 0, [2], none),
  (55, .iconst 0, 1, 0, 0, 0, [], none),
  (56, .ireturn, 1, 0, 0, 0, [], none)]
set_option maxRecDepth 100000 in
theorem kX9_underOne : ab_def_ok mX9_underOne rX9_underOne := ⟨ab_mok_of 1661 110 1660 88 (by decide +kernel), [0, 0, 0, 0, 1242, 0, 0, 1235, 0, 0, 0, 0, 0, 1236, 0, 0, 0, 1237, 0, 0, 0, 0, 1234, 0, 0, 0, 1233, 0, 0, 0, 0, 0, 0, 0, 0], by decide +kernel⟩
set_option maxRecDepth 100000 in
theorem vX9_underOne_0 {x : ab_Cx} {d mc ms : Nat} {Post : Option ab_V → List ab_Ob → Prop} (hx : ab_At x mX9_underOne d mc ms Post) (a1 : Int) (w0 : ab_Ob) (kc ks : Nat)
    (h : ab_J x 2 [some (ab_O 0), some (ab_I a1), some (ab_I 0)] [] [w0] kc ks) :
    ab_J x 0 [some (ab_O 0), some (ab_I a1), none] [] [w0] kc ks := ab_go hx kX9_underOne.2 7 [(2, [true, true, true])] 0 h
set_option maxRecDepth 100000 in
theorem vX9_underOne_2 {x : ab_Cx} {d mc ms : Nat} {Post : Option ab_V → List ab_Ob → Prop} (hx : ab_At x mX9_underOne d mc ms Post) (l1 l2 : Int) (w0 : ab_Ob) (kc ks : Nat)
    (h : (((w0.1 40) ≤ l2 → Post (some (ab_I 0)) [w0]) ∧ (¬ (w0.1 40) ≤ l2 → ((0 ≤ l2 ∧ l2 < (w0.2 33).1) ∧ ((¬ ((w0.2 33).2 l2) = l1 → ((-2147483648 ≤ l2 + 1 ∧ l2 + 1 ≤ 2147483647) ∧ ab_J x 2 [some (ab_O 0), some (ab_I l1), some (ab_I (l2 + 1))] [] [w0] kc ks)) ∧ (((w0.2 33).2 l2) = l1 → ((0 ≤ l2 ∧ l2 < (w0.2 34).1) ∧ ((0 ≤ l1 ∧ l1 < (w0.2 35).1) ∧ ((¬ ((w0.2 34).2 l2) = ((w0.2 35).2 l1) → ((-2147483648 ≤ l2 + 1 ∧ l2 + 1 ≤ 2147483647) ∧ ab_J x 2 [some (ab_O 0), some (ab_I l1), some (ab_I (l2 + 1))] [] [w0] kc ks)) ∧ (((w0.2 34).2 l2) = ((w0.2 35).2 l1) → ((0 ≤ l2 ∧ l2 < (w0.2 32).1) ∧ ((0 ≤ l2 ∧ l2 < (w0.2 31).1) ∧ ((-2147483648 ≤ ((w0.2 32).2 l2) - ((w0.2 31).2 l2) ∧ ((w0.2 32).2 l2) - ((w0.2 31).2 l2) ≤ 2147483647) ∧ Post (some (ab_I (((w0.2 32).2 l2) - ((w0.2 31).2 l2)))) [w0]))))))))))))) :
    ab_J x 2 [some (ab_O 0), some (ab_I l1), some (ab_I l2)] [] [w0] kc ks := ab_go hx kX9_underOne.2 33 [(2, [true, true, true])] 2 h
def mX9_under : ab_M := ((yX9_under, cX9_under, 2, (some .int)), ([9], [(0, 0)], [true], false, false, 0), (false, 9, 1))
def rX9_under : List ab_R := [(0, .aload_n 0, 1, 0, 0, 0, [], none),
  (1, .iconst 0, 1, 0, 0, 0, [], none),
  (2, .putfield 100, 3, 9, 0, 0, [], none),
  (5, .aload_n 0, 1, 0, 0, 0, [], none),
  (6, .iload_n 1, 1, 0, 0, 0, [], none),
  (7, .invokevirtual 307, 3, 0, 0, 0, [], some mX9_isNote),
  (10, .ifCond .eq 15, 3, 0, 0, 0, [25], none),
  (13, .aload_n 0, 1, 0, 0, 0, [], none),
  (14, .aload_n 0, 1, 0, 0, 0, [], none),
  (15, .iload_n 1, 1, 0, 0, 0, [], none),
  (16, .invokevirtual 358, 3, 0, 0, 0, [], some mX9_underOne),
  (19, .invokevirtual 255, 3, 0, 0, 0, [], some mX9_good),
  (22, .goto 8, 3, 0, 0, 0, [30], none),
  (25, .aload_n 0, 1, 0, 0, 0, [], none),
  (26, .iconst 1, 1, 0, 0, 0, [], none),
  (27, .invokevirtual 229, 3, 0, 0, 0, [], some mX9_refused),
  (30, .ireturn, 1, 0, 0, 0, [], none)]
set_option maxRecDepth 100000 in
theorem kX9_under : ab_def_ok mX9_under rX9_under := ⟨ab_mok_of 1657 110 1655 1656 (by decide +kernel), [0, 0, 1202, 0, 0, 1539, 0, 0, 0, 0, 1658, 1519, 0, 0, 0, 1371, 0], by decide +kernel⟩
set_option maxRecDepth 100000 in
theorem vX9_under_0 {x : ab_Cx} {d mc ms : Nat} {Post : Option ab_V → List ab_Ob → Prop} (hx : ab_At x mX9_under d mc ms Post) (a1 : Int) (w0 : ab_Ob) (kc ks : Nat)
    (h : (∃ r1 : Int, ab_Calls d 0 0 mX9_isNote [ab_O 0, ab_I a1] [(ab_pf w0 0 0)] (some (ab_I r1)) [(ab_pf w0 0 0)] ∧ ((r1 = 0 → (∃ r2 : Int, ∃ v3 : ab_Ob, ab_Calls d 0 0 mX9_refused [ab_O 0, ab_I 1] [(ab_pf w0 0 0)] (some (ab_I r2)) [v3] ∧ Post (some (ab_I r2)) [v3])) ∧ (¬ r1 = 0 → (∃ r4 : Int, ab_Calls d 0 0 mX9_underOne [ab_O 0, ab_I a1] [(ab_pf w0 0 0)] (some (ab_I r4)) [(ab_pf w0 0 0)] ∧ (∃ r5 : Int, ∃ v6 : ab_Ob, ab_Calls d 0 0 mX9_good [ab_O 0, ab_I r4] [(ab_pf w0 0 0)] (some (ab_I r5)) [v6] ∧ Post (some (ab_I r5)) [v6])))))) :
    ab_J x 0 [some (ab_O 0), some (ab_I a1)] [] [w0] kc ks := ab_go hx kX9_under.2 18 [] 0 h
def mX9_partOf : ab_M := ((yX9_partOf, cX9_partOf, 3, (some .int)), ([9], [(0, 0)], [false], false, false, 0), (false, 9, 1))
def rX9_partOf : List ab_R := [(0, .iconst 0, 1, 0, 0, 0, [], none),
  (1, .istore_n 2, 1, 0, 0, 0, [], none),
  (2, .aload_n 0, 1, 0, 0, 0, [], none),
  (3, .getfield 52, 3, 9, 33, 0, [], none),
  (6, .iload_n 2, 1, 0, 0, 0, [], none),
  (7, .iaload, 1, 0, 0, 0, [], none),
  (8, .iload_n 1, 1, 0, 0, 0, [], none),
  (9, .if_icmp .ne 18, 3, 0, 0, 0, [27], none),
  (12, .aload_n 0, 1, 0, 0, 0, [], none),
  (13, .getfield 55, 3, 9, 34, 0, [], none),
  (16, .iload_n 2, 1, 0, 0, 0, [], none),
  (17, .iaload, 1, 0, 0, 0, [], none),
  (18, .aload_n 0, 1, 0, 0, 0, [], none),
  (19, .getfield 58, 3, 9, 35, 0, [], none),
  (22, .iload_n 1, 1, 0, 0, 0, [], none),
  (23, .iaload, 1, 0, 0, 0, [], none),
  (24, .if_icmp .eq 9, 3, 0, 0, 0, [33], none),
  (27, .iinc 2 1, 3, 0, 0, 0, [], none),
  (30, .goto (-28), 3, 0, 0, 0, [2], none),
  (33, .iload_n 2, 1, 0, 0, 0, [], none),
  (34, .ireturn, 1, 0, 0, 0, [], none)]
set_option maxRecDepth 100000 in
theorem kX9_partOf : ab_def_ok mX9_partOf rX9_partOf := ⟨ab_mok_of 1669 110 1668 89 (by decide +kernel), [0, 0, 0, 1235, 0, 0, 0, 0, 0, 1236, 0, 0, 0, 1237, 0, 0, 0, 0, 0, 0, 0], by decide +kernel⟩
set_option maxRecDepth 100000 in
theorem vX9_partOf_0 {x : ab_Cx} {d mc ms : Nat} {Post : Option ab_V → List ab_Ob → Prop} (hx : ab_At x mX9_partOf d mc ms Post) (a1 : Int) (w0 : ab_Ob) (kc ks : Nat)
    (h : ab_J x 2 [some (ab_O 0), some (ab_I a1), some (ab_I 0)] [] [w0] kc ks) :
    ab_J x 0 [some (ab_O 0), some (ab_I a1), none] [] [w0] kc ks := ab_go hx kX9_partOf.2 7 [(2, [true, true, true])] 0 h
set_option maxRecDepth 100000 in
theorem vX9_partOf_2 {x : ab_Cx} {d mc ms : Nat} {Post : Option ab_V → List ab_Ob → Prop} (hx : ab_At x mX9_partOf d mc ms Post) (l1 l2 : Int) (w0 : ab_Ob) (kc ks : Nat)
    (h : ((0 ≤ l2 ∧ l2 < (w0.2 33).1) ∧ ((¬ ((w0.2 33).2 l2) = l1 → ((-2147483648 ≤ l2 + 1 ∧ l2 + 1 ≤ 2147483647) ∧ ab_J x 2 [some (ab_O 0), some (ab_I l1), some (ab_I (l2 + 1))] [] [w0] kc ks)) ∧ (((w0.2 33).2 l2) = l1 → ((0 ≤ l2 ∧ l2 < (w0.2 34).1) ∧ ((0 ≤ l1 ∧ l1 < (w0.2 35).1) ∧ ((((w0.2 34).2 l2) = ((w0.2 35).2 l1) → Post (some (ab_I l2)) [w0]) ∧ (¬ ((w0.2 34).2 l2) = ((w0.2 35).2 l1) → ((-2147483648 ≤ l2 + 1 ∧ l2 + 1 ≤ 2147483647) ∧ ab_J x 2 [some (ab_O 0), some (ab_I l1), some (ab_I (l2 + 1))] [] [w0] kc ks))))))))) :
    ab_J x 2 [some (ab_O 0), some (ab_I l1), some (ab_I l2)] [] [w0] kc ks := ab_go hx kX9_partOf.2 22 [(2, [true, true, true])] 2 h
def mX9_aboveOf : ab_M := ((yX9_aboveOf, cX9_aboveOf, 4, (some .int)), ([9], [(0, 0)], [false], false, false, 0), (false, 9, 1))
def rX9_aboveOf : List ab_R := [(0, .iconst (-1), 1, 0, 0, 0, [], none),
  (1, .istore_n 2, 1, 0, 0, 0, [], none),
  (2, .iconst 0, 1, 0, 0, 0, [], none),
  (3, .istore_n 3, 1, 0, 0, 0, [], none),
  (4, .iload_n 3, 1, 0, 0, 0, [], none),
  (5, .iload_n 1, 1, 0, 0, 0, [], none),
  (6, .if_icmp .ge 58, 3, 0, 0, 0, [64], none),
  (9, .aload_n 0, 1, 0, 0, 0, [], none),
  (10, .getfield 55, 3, 9, 34, 0, [], none),
  (13, .iload_n 3, 1, 0, 0, 0, [], none),
  (14, .iaload, 1, 0, 0, 0, [], none),
  (15, .aload_n 0, 1, 0, 0, 0, [], none),
  (16, .getfield 55, 3, 9, 34, 0, [], none),
  (19, .iload_n 1, 1, 0, 0, 0, [], none),
  (20, .iaload, 1, 0, 0, 0, [], none),
  (21, .iconst 1, 1, 0, 0, 0, [], none),
  (22, .isub, 1, 0, 0, 0, [], none),
  (23, .if_icmp .ne 35, 3, 0, 0, 0, [58], none),
  (26, .aload_n 0, 1, 0, 0, 0, [], none),
  (27, .getfield 46, 3, 9, 31, 0, [], none),
  (30, .iload_n 3, 1, 0, 0, 0, [], none),
  (31, .iaload, 1, 0, 0, 0, [], none),
  (32, .aload_n 0, 1, 0, 0, 0, [], none),
  (33, .getfield 46, 3, 9, 31, 0, [], none),
  (36, .iload_n 1, 1, 0, 0, 0, [], none),
  (37, .iaload, 1, 0, 0, 0, [], none),
  (38, .if_icmp .gt 20, 3, 0, 0, 0, [58], none),
  (41, .aload_n 0, 1, 0, 0, 0, [], none),
  (42, .getfield 49, 3, 9, 32, 0, [], none),
  (45, .iload_n 3, 1, 0, 0, 0, [], none),
  (46, .iaload, 1, 0, 0, 0, [], none),
  (47, .aload_n 0, 1, 0, 0, 0, [], none),
  (48, .getfield 49, 3, 9, 32, 0, [], none),
  (51, .iload_n 1, 1, 0, 0, 0, [], none),
  (52, .iaload, 1, 0, 0, 0, [], none),
  (53, .if_icmp .lt 5, 3, 0, 0, 0, [58], none),
  (56, .iload_n 3, 1, 0, 0, 0, [], none),
  (57, .istore_n 2, 1, 0, 0, 0, [], none),
  (58, .iinc 3 1, 3, 0, 0, 0, [], none),
  (61, .goto (-57), 3, 0, 0, 0, [4], none),
  (64, .iload_n 2, 1, 0, 0, 0, [], none),
  (65, .ireturn, 1, 0, 0, 0, [], none)]
set_option maxRecDepth 100000 in
theorem kX9_aboveOf : ab_def_ok mX9_aboveOf rX9_aboveOf := ⟨ab_mok_of 1673 110 1672 90 (by decide +kernel), [0, 0, 0, 0, 0, 0, 0, 0, 1236, 0, 0, 0, 1236, 0, 0, 0, 0, 0, 0, 1233, 0, 0, 0, 1233, 0, 0, 0, 0, 1234, 0, 0, 0, 1234, 0, 0, 0, 0, 0, 0, 0, 0, 0], by decide +kernel⟩
set_option maxRecDepth 100000 in
theorem vX9_aboveOf_0 {x : ab_Cx} {d mc ms : Nat} {Post : Option ab_V → List ab_Ob → Prop} (hx : ab_At x mX9_aboveOf d mc ms Post) (a1 : Int) (w0 : ab_Ob) (kc ks : Nat)
    (h : ab_J x 4 [some (ab_O 0), some (ab_I a1), some (ab_I (-1)), some (ab_I 0)] [] [w0] kc ks) :
    ab_J x 0 [some (ab_O 0), some (ab_I a1), none, none] [] [w0] kc ks := ab_go hx kX9_aboveOf.2 9 [(4, [true, true, true, true])] 0 h
set_option maxRecDepth 100000 in
theorem vX9_aboveOf_4 {x : ab_Cx} {d mc ms : Nat} {Post : Option ab_V → List ab_Ob → Prop} (hx : ab_At x mX9_aboveOf d mc ms Post) (l1 l2 l3 : Int) (w0 : ab_Ob) (kc ks : Nat)
    (h : ((l1 ≤ l3 → Post (some (ab_I l2)) [w0]) ∧ (¬ l1 ≤ l3 → ((0 ≤ l3 ∧ l3 < (w0.2 34).1) ∧ ((0 ≤ l1 ∧ l1 < (w0.2 34).1) ∧ ((-2147483648 ≤ ((w0.2 34).2 l1) - 1 ∧ ((w0.2 34).2 l1) - 1 ≤ 2147483647) ∧ ((¬ ((w0.2 34).2 l3) = (((w0.2 34).2 l1) - 1) → ((-2147483648 ≤ l3 + 1 ∧ l3 + 1 ≤ 2147483647) ∧ ab_J x 4 [some (ab_O 0), some (ab_I l1), some (ab_I l2), some (ab_I (l3 + 1))] [] [w0] kc ks)) ∧ (((w0.2 34).2 l3) = (((w0.2 34).2 l1) - 1) → ((0 ≤ l3 ∧ l3 < (w0.2 31).1) ∧ ((0 ≤ l1 ∧ l1 < (w0.2 31).1) ∧ ((((w0.2 31).2 l1) < ((w0.2 31).2 l3) → ((-2147483648 ≤ l3 + 1 ∧ l3 + 1 ≤ 2147483647) ∧ ab_J x 4 [some (ab_O 0), some (ab_I l1), some (ab_I l2), some (ab_I (l3 + 1))] [] [w0] kc ks)) ∧ (¬ ((w0.2 31).2 l1) < ((w0.2 31).2 l3) → ((0 ≤ l3 ∧ l3 < (w0.2 32).1) ∧ ((0 ≤ l1 ∧ l1 < (w0.2 32).1) ∧ ((((w0.2 32).2 l3) < ((w0.2 32).2 l1) → ((-2147483648 ≤ l3 + 1 ∧ l3 + 1 ≤ 2147483647) ∧ ab_J x 4 [some (ab_O 0), some (ab_I l1), some (ab_I l2), some (ab_I (l3 + 1))] [] [w0] kc ks)) ∧ (¬ ((w0.2 32).2 l3) < ((w0.2 32).2 l1) → ((-2147483648 ≤ l3 + 1 ∧ l3 + 1 ≤ 2147483647) ∧ ab_J x 4 [some (ab_O 0), some (ab_I l1), some (ab_I l3), some (ab_I (l3 + 1))] [] [w0] kc ks))))))))))))))))) :
    ab_J x 4 [some (ab_O 0), some (ab_I l1), some (ab_I l2), some (ab_I l3)] [] [w0] kc ks := ab_go hx kX9_aboveOf.2 41 [(4, [true, true, true, true])] 4 h
def mX9_reach : ab_M := ((yX9_reach, cX9_reach, 5, (some .int)), ([9], [(0, 0)], [true], false, false, 0), (false, 9, 2))
def rX9_reach : List ab_R := [(0, .aload_n 0, 1, 0, 0, 0, [], none),
  (1, .iconst 0, 1, 0, 0, 0, [], none),
  (2, .putfield 100, 3, 9, 0, 0, [], none),
  (5, .aload_n 0, 1, 0, 0, 0, [], none),
  (6, .iload_n 1, 1, 0, 0, 0, [], none),
  (7, .invokevirtual 307, 3, 0, 0, 0, [], some mX9_isNote),
  (10, .ifCond .eq 12, 3, 0, 0, 0, [22], none),
  (13, .iload_n 2, 1, 0, 0, 0, [], none),
  (14, .iconst 0, 1, 0, 0, 0, [], none),
  (15, .iconst 2, 1, 0, 0, 0, [], none),
  (16, .invokestatic 125, 3, 0, 0, 0, [], some mX9_in),
  (19, .ifCond .ne 9, 3, 0, 0, 0, [28], none),
  (22, .aload_n 0, 1, 0, 0, 0, [], none),
  (23, .iconst 1, 1, 0, 0, 0, [], none),
  (24, .invokevirtual 229, 3, 0, 0, 0, [], some mX9_refused),
  (27, .ireturn, 1, 0, 0, 0, [], none),
  (28, .aload_n 0, 1, 0, 0, 0, [], none),
  (29, .iload_n 1, 1, 0, 0, 0, [], none),
  (30, .invokevirtual 361, 3, 0, 0, 0, [], some mX9_partOf),
  (33, .istore_n 3, 1, 0, 0, 0, [], none),
  (34, .iload_n 2, 1, 0, 0, 0, [], none),
  (35, .iconst 2, 1, 0, 0, 0, [], none),
  (36, .if_icmp .ge 27, 3, 0, 0, 0, [63], none),
  (39, .aload_n 0, 1, 0, 0, 0, [], none),
  (40, .iload_n 2, 1, 0, 0, 0, [], none),
  (41, .ifCond .ne 12, 3, 0, 0, 0, [53], none),
  (44, .aload_n 0, 1, 0, 0, 0, [], none),
  (45, .getfield 46, 3, 9, 31, 0, [], none),
  (48, .iload_n 3, 1, 0, 0, 0, [], none),
  (49, .iaload, 1, 0, 0, 0, [], none),
  (50, .goto 9, 3, 0, 0, 0, [59], none),
  (53, .aload_n 0, 1, 0, 0, 0, [], none),
  (54, .getfield 49, 3, 9, 32, 0, [], none),
  (57, .iload_n 3, 1, 0, 0, 0, [], none),
  (58, .iaload, 1, 0, 0, 0, [], none),
  (59, .invokevirtual 255, 3, 0, 0, 0, [], some mX9_good),
  (62, .ireturn, 1, 0, 0, 0, [], none),
  (63, .aload_n 0, 1, 0, 0, 0, [], none),
  (64, .iload_n 3, 1, 0, 0, 0, [], none),
  (65, .invokevirtual 364, 3, 0, 0, 0, [], some mX9_aboveOf),
  (68, .istore 4, 2, 0, 0, 0, [], none),
  (70, .aload_n 0, 1, 0, 0, 0, [], none),
  (71, .iload 4, 2, 0, 0, 0, [], none),
  (73, .iconst (-1), 1, 0, 0, 0, [], none),
  (74, .if_icmp .ne 8, 3, 0, 0, 0, [82], none),
  (77, .bipush (-2), 2, 0, 0, 0, [], none),
  (79, .goto 10, 3, 0, 0, 0, [89], none),
  (82, .aload_n 0, 1, 0, 0, 0, [], none),
  (83, .getfield 52, 3, 9, 33, 0, [], none),
  (86, .iload 4, 2, 0, 0, 0, [], none),
  (88, .iaload, 1, 0, 0, 0, [], none),
  (89, .invokevirtual 255, 3, 0, 0, 0, [], some mX9_good),
  (92, .ireturn, 1, 0, 0, 0, [], none)]
set_option maxRecDepth 100000 in
theorem kX9_reach : ab_def_ok mX9_reach rX9_reach := ⟨ab_mok_of 1665 110 1663 1664 (by decide +kernel), [0, 0, 1202, 0, 0, 1539, 0, 0, 0, 0, 1387, 0, 0, 0, 1371, 0, 0, 0, 1666, 0, 0, 0, 0, 0, 0, 0, 0, 1233, 0, 0, 0, 0, 1234, 0, 0, 1519, 0, 0, 0, 1670, 0, 0, 0, 0, 0, 0, 0, 0, 1235, 0, 0, 1519, 0], by decide +kernel⟩
set_option maxRecDepth 100000 in
theorem vX9_reach_0 {x : ab_Cx} {d mc ms : Nat} {Post : Option ab_V → List ab_Ob → Prop} (hx : ab_At x mX9_reach d mc ms Post) (a1 a2 : Int) (w0 : ab_Ob) (kc ks : Nat)
    (h : (∃ r1 : Int, ab_Calls d 0 0 mX9_isNote [ab_O 0, ab_I a1] [(ab_pf w0 0 0)] (some (ab_I r1)) [(ab_pf w0 0 0)] ∧ ((r1 = 0 → (∃ r2 : Int, ∃ v3 : ab_Ob, ab_Calls d 0 0 mX9_refused [ab_O 0, ab_I 1] [(ab_pf w0 0 0)] (some (ab_I r2)) [v3] ∧ Post (some (ab_I r2)) [v3])) ∧ (¬ r1 = 0 → (∃ r4 : Int, ab_Calls d 0 0 mX9_in [ab_I a2, ab_I 0, ab_I 2] [] (some (ab_I r4)) [] ∧ ((¬ r4 = 0 → (∃ r5 : Int, ab_Calls d 0 0 mX9_partOf [ab_O 0, ab_I a1] [(ab_pf w0 0 0)] (some (ab_I r5)) [(ab_pf w0 0 0)] ∧ ((2 ≤ a2 → (∃ r6 : Int, ab_Calls d 0 0 mX9_aboveOf [ab_O 0, ab_I r5] [(ab_pf w0 0 0)] (some (ab_I r6)) [(ab_pf w0 0 0)] ∧ ((¬ r6 = (-1) → ((0 ≤ r6 ∧ r6 < (w0.2 33).1) ∧ (∃ r7 : Int, ∃ v8 : ab_Ob, ab_Calls d 0 0 mX9_good [ab_O 0, ab_I ((w0.2 33).2 r6)] [(ab_pf w0 0 0)] (some (ab_I r7)) [v8] ∧ Post (some (ab_I r7)) [v8]))) ∧ (r6 = (-1) → (∃ r9 : Int, ∃ v10 : ab_Ob, ab_Calls d 0 0 mX9_good [ab_O 0, ab_I (-2)] [(ab_pf w0 0 0)] (some (ab_I r9)) [v10] ∧ Post (some (ab_I r9)) [v10]))))) ∧ (¬ 2 ≤ a2 → ((¬ a2 = 0 → ((0 ≤ r5 ∧ r5 < (w0.2 32).1) ∧ (∃ r11 : Int, ∃ v12 : ab_Ob, ab_Calls d 0 0 mX9_good [ab_O 0, ab_I ((w0.2 32).2 r5)] [(ab_pf w0 0 0)] (some (ab_I r11)) [v12] ∧ Post (some (ab_I r11)) [v12]))) ∧ (a2 = 0 → ((0 ≤ r5 ∧ r5 < (w0.2 31).1) ∧ (∃ r13 : Int, ∃ v14 : ab_Ob, ab_Calls d 0 0 mX9_good [ab_O 0, ab_I ((w0.2 31).2 r5)] [(ab_pf w0 0 0)] (some (ab_I r13)) [v14] ∧ Post (some (ab_I r13)) [v14])))))))) ∧ (r4 = 0 → (∃ r15 : Int, ∃ v16 : ab_Ob, ab_Calls d 0 0 mX9_refused [ab_O 0, ab_I 1] [(ab_pf w0 0 0)] (some (ab_I r15)) [v16] ∧ Post (some (ab_I r15)) [v16])))))))) :
    ab_J x 0 [some (ab_O 0), some (ab_I a1), some (ab_I a2), none, none] [] [w0] kc ks := ab_go hx kX9_reach.2 37 [] 0 h
def mX9_climax : ab_M := ((yX9_climax, cX9_climax, 5, (some .int)), ([9], [(0, 0)], [true], false, false, 0), (false, 9, 1))
def rX9_climax : List ab_R := [(0, .aload_n 0, 1, 0, 0, 0, [], none),
  (1, .iconst 0, 1, 0, 0, 0, [], none),
  (2, .putfield 100, 3, 9, 0, 0, [], none),
  (5, .aload_n 0, 1, 0, 0, 0, [], none),
  (6, .getfield 235, 3, 9, 14, 0, [], none),
  (9, .ifCond .ne 9, 3, 0, 0, 0, [18], none),
  (12, .aload_n 0, 1, 0, 0, 0, [], none),
  (13, .iconst 1, 1, 0, 0, 0, [], none),
  (14, .invokevirtual 229, 3, 0, 0, 0, [], some mX9_refused),
  (17, .ireturn, 1, 0, 0, 0, [], none),
  (18, .aload_n 0, 1, 0, 0, 0, [], none),
  (19, .iload_n 1, 1, 0, 0, 0, [], none),
  (20, .invokevirtual 352, 3, 0, 0, 0, [], some mX9_isLevel),
  (23, .ifCond .ne 9, 3, 0, 0, 0, [32], none),
  (26, .aload_n 0, 1, 0, 0, 0, [], none),
  (27, .iconst 2, 1, 0, 0, 0, [], none),
  (28, .invokevirtual 229, 3, 0, 0, 0, [], some mX9_refused),
  (31, .ireturn, 1, 0, 0, 0, [], none),
  (32, .aload_n 0, 1, 0, 0, 0, [], none),
  (33, .getfield 52, 3, 9, 33, 0, [], none),
  (36, .aload_n 0, 1, 0, 0, 0, [], none),
  (37, .iload_n 1, 1, 0, 0, 0, [], none),
  (38, .iconst 0, 1, 0, 0, 0, [], none),
  (39, .invokevirtual 355, 3, 0, 0, 0, [], some mX9_levelAt),
  (42, .iaload, 1, 0, 0, 0, [], none),
  (43, .istore_n 2, 1, 0, 0, 0, [], none),
  (44, .aload_n 0, 1, 0, 0, 0, [], none),
  (45, .iload_n 1, 1, 0, 0, 0, [], none),
  (46, .iconst (-1), 1, 0, 0, 0, [], none),
  (47, .invokevirtual 355, 3, 0, 0, 0, [], some mX9_levelAt),
  (50, .istore_n 3, 1, 0, 0, 0, [], none),
  (51, .iconst 1, 1, 0, 0, 0, [], none),
  (52, .istore 4, 2, 0, 0, 0, [], none),
  (54, .iload 4, 2, 0, 0, 0, [], none),
  (56, .iload_n 3, 1, 0, 0, 0, [], none),
  (57, .if_icmp .ge 46, 3, 0, 0, 0, [103], none),
  (60, .aload_n 0, 1, 0, 0, 0, [], none),
  (61, .aload_n 0, 1, 0, 0, 0, [], none),
  (62, .getfield 52, 3, 9, 33, 0, [], none),
  (65, .aload_n 0, 1, 0, 0, 0, [], none),
  (66, .iload_n 1, 1, 0, 0, 0, [], none),
  (67, .iload 4, 2, 0, 0, 0, [], none),
  (69, .invokevirtual 355, 3, 0, 0, 0, [], some mX9_levelAt),
  (72, .iaload, 1, 0, 0, 0, [], none),
  (73, .invokevirtual 264, 3, 0, 0, 0, [], some mX9_pitchOf),
  (76, .aload_n 0, 1, 0, 0, 0, [], none),
  (77, .iload_n 2, 1, 0, 0, 0, [], none),
  (78, .invokevirtual 264, 3, 0, 0, 0, [], some mX9_pitchOf),
  (81, .if_icmp .le 16, 3, 0, 0, 0, [97], none),
  (84, .aload_n 0, 1, 0, 0, 0, [], none),
  (85, .getfield 52, 3, 9, 33, 0, [], none),
  (88, .aload_n 0, 1, 0, 0, 0, [], none),
  (89, .iload_n 1, 1, 0, 0, 0, [], none),
  (90, .iload 4, 2, 0, 0, 0, [], none),
  (92, .invokevirtual 355, 3, 0, 0, 0, [], some mX9_levelAt),
  (95, .iaload, 1, 0, 0, 0, [], none),
  (96, .istore_n 2, 1, 0, 0, 0, [], none),
  (97, .iinc 4 1, 3, 0, 0, 0, [], none),
  (100, .goto (-46), 3, 0, 0, 0, [54], none),
  (103, .aload_n 0, 1, 0, 0, 0, [], none),
  (104, .iload_n 2, 1, 0, 0, 0, [], none),
  (105, .invokevirtual 255, 3, 0, 0, 0, [], some mX9_good),
  (108, .ireturn, 1, 0, 0, 0, [], none)]
set_option maxRecDepth 100000 in
theorem kX9_climax : ab_def_ok mX9_climax rX9_climax := ⟨ab_mok_of 1677 110 1675 1676 (by decide +kernel), [0, 0, 1202, 0, 1216, 0, 0, 0, 1371, 0, 0, 0, 1630, 0, 0, 0, 1371, 0, 0, 1235, 0, 0, 0, 1634, 0, 0, 0, 0, 0, 1634, 0, 0, 0, 0, 0, 0, 0, 0, 1235, 0, 0, 0, 1634, 0, 1472, 0, 0, 1472, 0, 0, 1235, 0, 0, 0, 1634, 0, 0, 0, 0, 0, 0, 1519, 0], by decide +kernel⟩
set_option maxRecDepth 100000 in
theorem vX9_climax_0 {x : ab_Cx} {d mc ms : Nat} {Post : Option ab_V → List ab_Ob → Prop} (hx : ab_At x mX9_climax d mc ms Post) (a1 : Int) (w0 : ab_Ob) (kc ks : Nat)
    (h : ((¬ (w0.1 14) = 0 → (∃ r1 : Int, ab_Calls d 0 0 mX9_isLevel [ab_O 0, ab_I a1] [(ab_pf w0 0 0)] (some (ab_I r1)) [(ab_pf w0 0 0)] ∧ ((¬ r1 = 0 → (∃ r2 : Int, ab_Calls d 0 0 mX9_levelAt [ab_O 0, ab_I a1, ab_I 0] [(ab_pf w0 0 0)] (some (ab_I r2)) [(ab_pf w0 0 0)] ∧ ((0 ≤ r2 ∧ r2 < (w0.2 33).1) ∧ (∃ r3 : Int, ab_Calls d 0 0 mX9_levelAt [ab_O 0, ab_I a1, ab_I (-1)] [(ab_pf w0 0 0)] (some (ab_I r3)) [(ab_pf w0 0 0)] ∧ ab_J x 54 [some (ab_O 0), some (ab_I a1), some (ab_I ((w0.2 33).2 r2)), some (ab_I r3), some (ab_I 1)] [] [(ab_pf w0 0 0)] kc ks)))) ∧ (r1 = 0 → (∃ r4 : Int, ∃ v5 : ab_Ob, ab_Calls d 0 0 mX9_refused [ab_O 0, ab_I 2] [(ab_pf w0 0 0)] (some (ab_I r4)) [v5] ∧ Post (some (ab_I r4)) [v5]))))) ∧ ((w0.1 14) = 0 → (∃ r6 : Int, ∃ v7 : ab_Ob, ab_Calls d 0 0 mX9_refused [ab_O 0, ab_I 1] [(ab_pf w0 0 0)] (some (ab_I r6)) [v7] ∧ Post (some (ab_I r6)) [v7])))) :
    ab_J x 0 [some (ab_O 0), some (ab_I a1), none, none, none] [] [w0] kc ks := ab_go hx kX9_climax.2 30 [(54, [true, true, true, true, true])] 0 h
set_option maxRecDepth 100000 in
theorem vX9_climax_54 {x : ab_Cx} {d mc ms : Nat} {Post : Option ab_V → List ab_Ob → Prop} (hx : ab_At x mX9_climax d mc ms Post) (l1 l2 l3 l4 : Int) (w0 : ab_Ob) (kc ks : Nat)
    (h : ((l3 ≤ l4 → (∃ r1 : Int, ∃ v2 : ab_Ob, ab_Calls d 0 0 mX9_good [ab_O 0, ab_I l2] [w0] (some (ab_I r1)) [v2] ∧ Post (some (ab_I r1)) [v2])) ∧ (¬ l3 ≤ l4 → (∃ r3 : Int, ab_Calls d 0 0 mX9_levelAt [ab_O 0, ab_I l1, ab_I l4] [w0] (some (ab_I r3)) [w0] ∧ ((0 ≤ r3 ∧ r3 < (w0.2 33).1) ∧ (∃ r4 : Int, ab_Calls d 0 0 mX9_pitchOf [ab_O 0, ab_I ((w0.2 33).2 r3)] [w0] (some (ab_I r4)) [w0] ∧ (∃ r5 : Int, ab_Calls d 0 0 mX9_pitchOf [ab_O 0, ab_I l2] [w0] (some (ab_I r5)) [w0] ∧ ((r4 ≤ r5 → ((-2147483648 ≤ l4 + 1 ∧ l4 + 1 ≤ 2147483647) ∧ ab_J x 54 [some (ab_O 0), some (ab_I l1), some (ab_I l2), some (ab_I l3), some (ab_I (l4 + 1))] [] [w0] kc ks)) ∧ (¬ r4 ≤ r5 → (∃ r6 : Int, ab_Calls d 0 0 mX9_levelAt [ab_O 0, ab_I l1, ab_I l4] [w0] (some (ab_I r6)) [w0] ∧ ((0 ≤ r6 ∧ r6 < (w0.2 33).1) ∧ ((-2147483648 ≤ l4 + 1 ∧ l4 + 1 ≤ 2147483647) ∧ ab_J x 54 [some (ab_O 0), some (ab_I l1), some (ab_I ((w0.2 33).2 r6)), some (ab_I l3), some (ab_I (l4 + 1))] [] [w0] kc ks)))))))))))) :
    ab_J x 54 [some (ab_O 0), some (ab_I l1), some (ab_I l2), some (ab_I l3), some (ab_I l4)] [] [w0] kc ks := ab_go hx kX9_climax.2 31 [(54, [true, true, true, true, true])] 54 h
def mX9_levelPitch : ab_M := ((yX9_levelPitch, cX9_levelPitch, 3, (some .int)), ([9], [(0, 0)], [false], false, false, 0), (false, 9, 2))
def rX9_levelPitch : List ab_R := [(0, .aload_n 0, 1, 0, 0, 0, [], none),
  (1, .aload_n 0, 1, 0, 0, 0, [], none),
  (2, .getfield 52, 3, 9, 33, 0, [], none),
  (5, .aload_n 0, 1, 0, 0, 0, [], none),
  (6, .iload_n 1, 1, 0, 0, 0, [], none),
  (7, .iload_n 2, 1, 0, 0, 0, [], none),
  (8, .invokevirtual 355, 3, 0, 0, 0, [], some mX9_levelAt),
  (11, .iaload, 1, 0, 0, 0, [], none),
  (12, .invokevirtual 264, 3, 0, 0, 0, [], some mX9_pitchOf),
  (15, .ireturn, 1, 0, 0, 0, [], none)]
set_option maxRecDepth 100000 in
theorem kX9_levelPitch : ab_def_ok mX9_levelPitch rX9_levelPitch := ⟨ab_mok_of 1685 110 1684 91 (by decide +kernel), [0, 0, 1235, 0, 0, 0, 1634, 0, 1472, 0], by decide +kernel⟩
set_option maxRecDepth 100000 in
theorem vX9_levelPitch_0 {x : ab_Cx} {d mc ms : Nat} {Post : Option ab_V → List ab_Ob → Prop} (hx : ab_At x mX9_levelPitch d mc ms Post) (a1 a2 : Int) (w0 : ab_Ob) (kc ks : Nat)
    (h : (∃ r1 : Int, ab_Calls d 0 0 mX9_levelAt [ab_O 0, ab_I a1, ab_I a2] [w0] (some (ab_I r1)) [w0] ∧ ((0 ≤ r1 ∧ r1 < (w0.2 33).1) ∧ (∃ r2 : Int, ab_Calls d 0 0 mX9_pitchOf [ab_O 0, ab_I ((w0.2 33).2 r1)] [w0] (some (ab_I r2)) [w0] ∧ Post (some (ab_I r2)) [w0])))) :
    ab_J x 0 [some (ab_O 0), some (ab_I a1), some (ab_I a2)] [] [w0] kc ks := ab_go hx kX9_levelPitch.2 14 [] 0 h
def mX9_widest : ab_M := ((yX9_widest, cX9_widest, 5, (some .int)), ([9], [(0, 0)], [true], false, false, 0), (false, 9, 1))
def rX9_widest : List ab_R := [(0, .aload_n 0, 1, 0, 0, 0, [], none),
  (1, .iconst 0, 1, 0, 0, 0, [], none),
  (2, .putfield 100, 3, 9, 0, 0, [], none),
  (5, .aload_n 0, 1, 0, 0, 0, [], none),
  (6, .getfield 235, 3, 9, 14, 0, [], none),
  (9, .ifCond .ne 9, 3, 0, 0, 0, [18], none),
  (12, .aload_n 0, 1, 0, 0, 0, [], none),
  (13, .iconst 1, 1, 0, 0, 0, [], none),
  (14, .invokevirtual 229, 3, 0, 0, 0, [], some mX9_refused),
  (17, .ireturn, 1, 0, 0, 0, [], none),
  (18, .aload_n 0, 1, 0, 0, 0, [], none),
  (19, .iload_n 1, 1, 0, 0, 0, [], none),
  (20, .invokevirtual 352, 3, 0, 0, 0, [], some mX9_isLevel),
  (23, .ifCond .ne 9, 3, 0, 0, 0, [32], none),
  (26, .aload_n 0, 1, 0, 0, 0, [], none),
  (27, .iconst 2, 1, 0, 0, 0, [], none),
  (28, .invokevirtual 229, 3, 0, 0, 0, [], some mX9_refused),
  (31, .ireturn, 1, 0, 0, 0, [], none),
  (32, .iconst 0, 1, 0, 0, 0, [], none),
  (33, .istore_n 2, 1, 0, 0, 0, [], none),
  (34, .aload_n 0, 1, 0, 0, 0, [], none),
  (35, .iload_n 1, 1, 0, 0, 0, [], none),
  (36, .iconst (-1), 1, 0, 0, 0, [], none),
  (37, .invokevirtual 355, 3, 0, 0, 0, [], some mX9_levelAt),
  (40, .istore_n 3, 1, 0, 0, 0, [], none),
  (41, .iconst 1, 1, 0, 0, 0, [], none),
  (42, .istore 4, 2, 0, 0, 0, [], none),
  (44, .iload 4, 2, 0, 0, 0, [], none),
  (46, .iload_n 3, 1, 0, 0, 0, [], none),
  (47, .if_icmp .ge 52, 3, 0, 0, 0, [99], none),
  (50, .aload_n 0, 1, 0, 0, 0, [], none),
  (51, .iload_n 1, 1, 0, 0, 0, [], none),
  (52, .iload 4, 2, 0, 0, 0, [], none),
  (54, .invokevirtual 367, 3, 0, 0, 0, [], some mX9_levelPitch),
  (57, .aload_n 0, 1, 0, 0, 0, [], none),
  (58, .iload_n 1, 1, 0, 0, 0, [], none),
  (59, .iload 4, 2, 0, 0, 0, [], none),
  (61, .iconst 1, 1, 0, 0, 0, [], none),
  (62, .isub, 1, 0, 0, 0, [], none),
  (63, .invokevirtual 367, 3, 0, 0, 0, [], some mX9_levelPitch),
  (66, .invokestatic 270, 3, 0, 0, 0, [], some mX9_apart),
  (69, .iload_n 2, 1, 0, 0, 0, [], none),
  (70, .if_icmp .le 23, 3, 0, 0, 0, [93], none),
  (73, .aload_n 0, 1, 0, 0, 0, [], none),
  (74, .iload_n 1, 1, 0, 0, 0, [], none),
  (75, .iload 4, 2, 0, 0, 0, [], none),
  (77, .invokevirtual 367, 3, 0, 0, 0, [], some mX9_levelPitch),
  (80, .aload_n 0, 1, 0, 0, 0, [], none),
  (81, .iload_n 1, 1, 0, 0, 0, [], none),
  (82, .iload 4, 2, 0, 0, 0, [], none),
  (84, .iconst 1, 1, 0, 0, 0, [], none),
  (85, .isub, 1, 0, 0, 0, [], none),
  (86, .invokevirtual 367, 3, 0, 0, 0, [], some mX9_levelPitch),
  (89, .invokestatic 270, 3, 0, 0, 0, [], some mX9_apart),
  (92, .istore_n 2, 1, 0, 0, 0, [], none),
  (93, .iinc 4 1, 3, 0, 0, 0, [], none),
  (96, .goto (-52), 3, 0, 0, 0, [44], none),
  (99, .aload_n 0, 1, 0, 0, 0, [], none),
  (100, .iload_n 2, 1, 0, 0, 0, [], none),
  (101, .invokevirtual 255, 3, 0, 0, 0, [], some mX9_good),
  (104, .ireturn, 1, 0, 0, 0, [], none)]
set_option maxRecDepth 100000 in
theorem kX9_widest : ab_def_ok mX9_widest rX9_widest := ⟨ab_mok_of 1681 110 1679 1680 (by decide +kernel), [0, 0, 1202, 0, 1216, 0, 0, 0, 1371, 0, 0, 0, 1630, 0, 0, 0, 1371, 0, 0, 0, 0, 0, 0, 1634, 0, 0, 0, 0, 0, 0, 0, 0, 0, 1682, 0, 0, 0, 0, 0, 1682, 1503, 0, 0, 0, 0, 0, 1682, 0, 0, 0, 0, 0, 1682, 1503, 0, 0, 0, 0, 0, 1519, 0], by decide +kernel⟩
set_option maxRecDepth 100000 in
theorem vX9_widest_0 {x : ab_Cx} {d mc ms : Nat} {Post : Option ab_V → List ab_Ob → Prop} (hx : ab_At x mX9_widest d mc ms Post) (a1 : Int) (w0 : ab_Ob) (kc ks : Nat)
    (h : ((¬ (w0.1 14) = 0 → (∃ r1 : Int, ab_Calls d 0 0 mX9_isLevel [ab_O 0, ab_I a1] [(ab_pf w0 0 0)] (some (ab_I r1)) [(ab_pf w0 0 0)] ∧ ((¬ r1 = 0 → (∃ r2 : Int, ab_Calls d 0 0 mX9_levelAt [ab_O 0, ab_I a1, ab_I (-1)] [(ab_pf w0 0 0)] (some (ab_I r2)) [(ab_pf w0 0 0)] ∧ ab_J x 44 [some (ab_O 0), some (ab_I a1), some (ab_I 0), some (ab_I r2), some (ab_I 1)] [] [(ab_pf w0 0 0)] kc ks)) ∧ (r1 = 0 → (∃ r3 : Int, ∃ v4 : ab_Ob, ab_Calls d 0 0 mX9_refused [ab_O 0, ab_I 2] [(ab_pf w0 0 0)] (some (ab_I r3)) [v4] ∧ Post (some (ab_I r3)) [v4]))))) ∧ ((w0.1 14) = 0 → (∃ r5 : Int, ∃ v6 : ab_Ob, ab_Calls d 0 0 mX9_refused [ab_O 0, ab_I 1] [(ab_pf w0 0 0)] (some (ab_I r5)) [v6] ∧ Post (some (ab_I r5)) [v6])))) :
    ab_J x 0 [some (ab_O 0), some (ab_I a1), none, none, none] [] [w0] kc ks := ab_go hx kX9_widest.2 24 [(44, [true, true, true, true, true])] 0 h
set_option maxRecDepth 100000 in
theorem vX9_widest_44 {x : ab_Cx} {d mc ms : Nat} {Post : Option ab_V → List ab_Ob → Prop} (hx : ab_At x mX9_widest d mc ms Post) (l1 l2 l3 l4 : Int) (w0 : ab_Ob) (kc ks : Nat)
    (h : ((l3 ≤ l4 → (∃ r1 : Int, ∃ v2 : ab_Ob, ab_Calls d 0 0 mX9_good [ab_O 0, ab_I l2] [w0] (some (ab_I r1)) [v2] ∧ Post (some (ab_I r1)) [v2])) ∧ (¬ l3 ≤ l4 → (∃ r3 : Int, ab_Calls d 0 0 mX9_levelPitch [ab_O 0, ab_I l1, ab_I l4] [w0] (some (ab_I r3)) [w0] ∧ ((-2147483648 ≤ l4 - 1 ∧ l4 - 1 ≤ 2147483647) ∧ (∃ r4 : Int, ab_Calls d 0 0 mX9_levelPitch [ab_O 0, ab_I l1, ab_I (l4 - 1)] [w0] (some (ab_I r4)) [w0] ∧ (∃ r5 : Int, ab_Calls d 0 0 mX9_apart [ab_I r3, ab_I r4] [] (some (ab_I r5)) [] ∧ ((r5 ≤ l2 → ((-2147483648 ≤ l4 + 1 ∧ l4 + 1 ≤ 2147483647) ∧ ab_J x 44 [some (ab_O 0), some (ab_I l1), some (ab_I l2), some (ab_I l3), some (ab_I (l4 + 1))] [] [w0] kc ks)) ∧ (¬ r5 ≤ l2 → (∃ r6 : Int, ab_Calls d 0 0 mX9_levelPitch [ab_O 0, ab_I l1, ab_I l4] [w0] (some (ab_I r6)) [w0] ∧ ((-2147483648 ≤ l4 - 1 ∧ l4 - 1 ≤ 2147483647) ∧ (∃ r7 : Int, ab_Calls d 0 0 mX9_levelPitch [ab_O 0, ab_I l1, ab_I (l4 - 1)] [w0] (some (ab_I r7)) [w0] ∧ (∃ r8 : Int, ab_Calls d 0 0 mX9_apart [ab_I r6, ab_I r7] [] (some (ab_I r8)) [] ∧ ((-2147483648 ≤ l4 + 1 ∧ l4 + 1 ≤ 2147483647) ∧ ab_J x 44 [some (ab_O 0), some (ab_I l1), some (ab_I r8), some (ab_I l3), some (ab_I (l4 + 1))] [] [w0] kc ks)))))))))))))) :
    ab_J x 44 [some (ab_O 0), some (ab_I l1), some (ab_I l2), some (ab_I l3), some (ab_I l4)] [] [w0] kc ks := ab_go hx kX9_widest.2 35 [(44, [true, true, true, true, true])] 44 h
def mX9_echo : ab_M := ((yX9_echo, cX9_echo, 9, (some .int)), ([9], [(0, 0)], [true], false, false, 0), (false, 9, 2))
def rX9_echo : List ab_R := [(0, .aload_n 0, 1, 0, 0, 0, [], none),
  (1, .iconst 0, 1, 0, 0, 0, [], none),
  (2, .putfield 100, 3, 9, 0, 0, [], none),
  (5, .aload_n 0, 1, 0, 0, 0, [], none),
  (6, .getfield 235, 3, 9, 14, 0, [], none),
  (9, .ifCond .ne 9, 3, 0, 0, 0, [18], none),
  (12, .aload_n 0, 1, 0, 0, 0, [], none),
  (13, .iconst 1, 1, 0, 0, 0, [], none),
  (14, .invokevirtual 229, 3, 0, 0, 0, [], some mX9_refused),
  (17, .ireturn, 1, 0, 0, 0, [], none),
  (18, .aload_n 0, 1, 0, 0, 0, [], none),
  (19, .iload_n 1, 1, 0, 0, 0, [], none),
  (20, .invokevirtual 352, 3, 0, 0, 0, [], some mX9_isLevel),
  (23, .ifCond .eq 11, 3, 0, 0, 0, [34], none),
  (26, .aload_n 0, 1, 0, 0, 0, [], none),
  (27, .iload_n 2, 1, 0, 0, 0, [], none),
  (28, .invokevirtual 352, 3, 0, 0, 0, [], some mX9_isLevel),
  (31, .ifCond .ne 9, 3, 0, 0, 0, [40], none),
  (34, .aload_n 0, 1, 0, 0, 0, [], none),
  (35, .iconst 2, 1, 0, 0, 0, [], none),
  (36, .invokevirtual 229, 3, 0, 0, 0, [], some mX9_refused),
  (39, .ireturn, 1, 0, 0, 0, [], none),
  (40, .aload_n 0, 1, 0, 0, 0, [], none),
  (41, .iload_n 1, 1, 0, 0, 0, [], none),
  (42, .iconst (-1), 1, 0, 0, 0, [], none),
  (43, .invokevirtual 355, 3, 0, 0, 0, [], some mX9_levelAt),
  (46, .istore_n 3, 1, 0, 0, 0, [], none),
  (47, .aload_n 0, 1, 0, 0, 0, [], none),
  (48, .iload_n 2, 1, 0, 0, 0, [], none),
  (49, .iconst (-1), 1, 0, 0, 0, [], none),
  (50, .invokevirtual 355, 3, 0, 0, 0, [], some mX9_levelAt),
  (53, .istore 4, 2, 0, 0, 0, [], none),
  (55, .iconst 0, 1, 0, 0, 0, [], none),
  (56, .istore 5, 2, 0, 0, 0, [], none),
  (58, .iconst 0, 1, 0, 0, 0, [], none),
  (59, .istore 6, 2, 0, 0, 0, [], none),
  (61, .iload 6, 2, 0, 0, 0, [], none),
  (63, .iload_n 3, 1, 0, 0, 0, [], none),
  (64, .iadd, 1, 0, 0, 0, [], none),
  (65, .iload 4, 2, 0, 0, 0, [], none),
  (67, .if_icmp .gt 97, 3, 0, 0, 0, [164], none),
  (70, .iconst 1, 1, 0, 0, 0, [], none),
  (71, .istore 7, 2, 0, 0, 0, [], none),
  (73, .iconst 1, 1, 0, 0, 0, [], none),
  (74, .istore 8, 2, 0, 0, 0, [], none),
  (76, .iload 7, 2, 0, 0, 0, [], none),
  (78, .ifCond .eq 65, 3, 0, 0, 0, [143], none),
  (81, .iload 8, 2, 0, 0, 0, [], none),
  (83, .iload_n 3, 1, 0, 0, 0, [], none),
  (84, .if_icmp .ge 59, 3, 0, 0, 0, [143], none),
  (87, .aload_n 0, 1, 0, 0, 0, [], none),
  (88, .iload_n 1, 1, 0, 0, 0, [], none),
  (89, .iload 8, 2, 0, 0, 0, [], none),
  (91, .invokevirtual 367, 3, 0, 0, 0, [], some mX9_levelPitch),
  (94, .aload_n 0, 1, 0, 0, 0, [], none),
  (95, .iload_n 1, 1, 0, 0, 0, [], none),
  (96, .iload 8, 2, 0, 0, 0, [], none),
  (98, .iconst 1, 1, 0, 0, 0, [], none),
  (99, .isub, 1, 0, 0, 0, [], none),
  (100, .invokevirtual 367, 3, 0, 0, 0, [], some mX9_levelPitch),
  (103, .isub, 1, 0, 0, 0, [], none),
  (104, .aload_n 0, 1, 0, 0, 0, [], none),
  (105, .iload_n 2, 1, 0, 0, 0, [], none),
  (106, .iload 6, 2, 0, 0, 0, [], none),
  (108, .iload 8, 2, 0, 0, 0, [], none),
  (110, .iadd, 1, 0, 0, 0, [], none),
  (111, .invokevirtual 367, 3, 0, 0, 0, [], some mX9_levelPitch),
  (114, .aload_n 0, 1, 0, 0, 0, [], none),
  (115, .iload_n 2, 1, 0, 0, 0, [], none),
  (116, .iload 6, 2, 0, 0, 0, [], none),
  (118, .iload 8, 2, 0, 0, 0, [], none),
  (120, .iadd, 1, 0, 0, 0, [], none),
  (121, .iconst 1, 1, 0, 0, 0, [], none),
  (122, .isub, 1, 0, 0, 0, [], none),
  (123, .invokevirtual 367, 3, 0, 0, 0, [], some mX9_levelPitch),
  (126, .isub, 1, 0, 0, 0, [], none),
  (127, .if_icmp .ne 7, 3, 0, 0, 0, [134], none),
  (130, .iconst 1, 1, 0, 0, 0, [], none),
  (131, .goto 4, 3, 0, 0, 0, [135], none),
  (134, .iconst 0, 1, 0, 0, 0, [], none),
  (135, .istore 7, 2, 0, 0, 0, [], none),
  (137, .iinc 8 1, 3, 0, 0, 0, [], none),
  (140, .goto (-64), 3, 0, 0, 0, [76], none),
  (143, .iload 5, 2, 0, 0, 0, [], none),
  (145, .iload 7, 2, 0, 0, 0, [], none),
  (147, .ifCond .eq 7, 3, 0, 0, 0, [154], none),
  (150, .iconst 1, 1, 0, 0, 0, [], none),
  (151, .goto 4, 3, 0, 0, 0, [155], none),
  (154, .iconst 0, 1, 0, 0, 0, [], none),
  (155, .iadd, 1, 0, 0, 0, [], none),
  (156, .istore 5, 2, 0, 0, 0, [], none),
  (158, .iinc 6 1, 3, 0, 0, 0, [], none),
  (161, .goto (-100), 3, 0, 0, 0, [61], none),
  (164, .aload_n 0, 1, 0, 0, 0, [], none),
  (165, .iload 5, 2, 0, 0, 0, [], none),
  (167, .invokevirtual 255, 3, 0, 0, 0, [], some mX9_good),
  (170, .ireturn, 1, 0, 0, 0, [], none)]
set_option maxRecDepth 100000 in
theorem kX9_echo : ab_def_ok mX9_echo rX9_echo := ⟨ab_mok_of 1689 110 1687 1688 (by decide +kernel), [0, 0, 1202, 0, 1216, 0, 0, 0, 1371, 0, 0, 0, 1630, 0, 0, 0, 1630, 0, 0, 0, 1371, 0, 0, 0, 0, 1634, 0, 0, 0, 0, 1634, 0, 0, 0, 0, 0, 0, 0, 0, 0, 0, 0, 0, 0, 0, 0, 0, 0, 0, 0, 0, 0, 0, 1682, 0, 0, 0, 0, 0, 1682, 0, 0, 0, 0, 0, 0, 1682, 0, 0, 0, 0, 0, 0, 0, 1682, 0, 0, 0, 0, 0, 0, 0, 0, 0, 0, 0, 0, 0, 0, 0, 0, 0, 0, 0, 0, 1519, 0], by decide +kernel⟩
set_option maxRecDepth 100000 in
theorem vX9_echo_0 {x : ab_Cx} {d mc ms : Nat} {Post : Option ab_V → List ab_Ob → Prop} (hx : ab_At x mX9_echo d mc ms Post) (a1 a2 : Int) (w0 : ab_Ob) (kc ks : Nat)
    (h : ((¬ (w0.1 14) = 0 → (∃ r1 : Int, ab_Calls d 0 0 mX9_isLevel [ab_O 0, ab_I a1] [(ab_pf w0 0 0)] (some (ab_I r1)) [(ab_pf w0 0 0)] ∧ ((r1 = 0 → (∃ r2 : Int, ∃ v3 : ab_Ob, ab_Calls d 0 0 mX9_refused [ab_O 0, ab_I 2] [(ab_pf w0 0 0)] (some (ab_I r2)) [v3] ∧ Post (some (ab_I r2)) [v3])) ∧ (¬ r1 = 0 → (∃ r4 : Int, ab_Calls d 0 0 mX9_isLevel [ab_O 0, ab_I a2] [(ab_pf w0 0 0)] (some (ab_I r4)) [(ab_pf w0 0 0)] ∧ ((¬ r4 = 0 → (∃ r5 : Int, ab_Calls d 0 0 mX9_levelAt [ab_O 0, ab_I a1, ab_I (-1)] [(ab_pf w0 0 0)] (some (ab_I r5)) [(ab_pf w0 0 0)] ∧ (∃ r6 : Int, ab_Calls d 0 0 mX9_levelAt [ab_O 0, ab_I a2, ab_I (-1)] [(ab_pf w0 0 0)] (some (ab_I r6)) [(ab_pf w0 0 0)] ∧ ab_J x 61 [some (ab_O 0), some (ab_I a1), some (ab_I a2), some (ab_I r5), some (ab_I r6), some (ab_I 0), some (ab_I 0), none, none] [] [(ab_pf w0 0 0)] kc ks))) ∧ (r4 = 0 → (∃ r7 : Int, ∃ v8 : ab_Ob, ab_Calls d 0 0 mX9_refused [ab_O 0, ab_I 2] [(ab_pf w0 0 0)] (some (ab_I r7)) [v8] ∧ Post (some (ab_I r7)) [v8])))))))) ∧ ((w0.1 14) = 0 → (∃ r9 : Int, ∃ v10 : ab_Ob, ab_Calls d 0 0 mX9_refused [ab_O 0, ab_I 1] [(ab_pf w0 0 0)] (some (ab_I r9)) [v10] ∧ Post (some (ab_I r9)) [v10])))) :
    ab_J x 0 [some (ab_O 0), some (ab_I a1), some (ab_I a2), none, none, none, none, none, none] [] [w0] kc ks := ab_go hx kX9_echo.2 33 [(61, [true, true, true, true, true, true, true, false, false]), (76, [true, true, true, true, true, true, true, true, true])] 0 h
set_option maxRecDepth 100000 in
theorem vX9_echo_61 {x : ab_Cx} {d mc ms : Nat} {Post : Option ab_V → List ab_Ob → Prop} (hx : ab_At x mX9_echo d mc ms Post) (l1 l2 l3 l4 l5 l6 : Int) (w0 : ab_Ob) (kc ks : Nat)
    (h : ((-2147483648 ≤ l6 + l3 ∧ l6 + l3 ≤ 2147483647) ∧ ((l4 < (l6 + l3) → (∃ r1 : Int, ∃ v2 : ab_Ob, ab_Calls d 0 0 mX9_good [ab_O 0, ab_I l5] [w0] (some (ab_I r1)) [v2] ∧ Post (some (ab_I r1)) [v2])) ∧ (¬ l4 < (l6 + l3) → ab_J x 76 [some (ab_O 0), some (ab_I l1), some (ab_I l2), some (ab_I l3), some (ab_I l4), some (ab_I l5), some (ab_I l6), some (ab_I 1), some (ab_I 1)] [] [w0] kc ks)))) :
    ab_J x 61 [some (ab_O 0), some (ab_I l1), some (ab_I l2), some (ab_I l3), some (ab_I l4), some (ab_I l5), some (ab_I l6), none, none] [] [w0] kc ks := ab_go hx kX9_echo.2 14 [(61, [true, true, true, true, true, true, true, false, false]), (76, [true, true, true, true, true, true, true, true, true])] 61 h
set_option maxRecDepth 100000 in
theorem vX9_echo_76 {x : ab_Cx} {d mc ms : Nat} {Post : Option ab_V → List ab_Ob → Prop} (hx : ab_At x mX9_echo d mc ms Post) (l1 l2 l3 l4 l5 l6 l7 l8 : Int) (w0 : ab_Ob) (kc ks : Nat)
    (h : ((l7 = 0 → ((l7 = 0 → ((-2147483648 ≤ l5 + 0 ∧ l5 + 0 ≤ 2147483647) ∧ ((-2147483648 ≤ l6 + 1 ∧ l6 + 1 ≤ 2147483647) ∧ ab_J x 61 [some (ab_O 0), some (ab_I l1), some (ab_I l2), some (ab_I l3), some (ab_I l4), some (ab_I (l5 + 0)), some (ab_I (l6 + 1)), none, none] [] [w0] kc ks))) ∧ (¬ l7 = 0 → ((-2147483648 ≤ l5 + 1 ∧ l5 + 1 ≤ 2147483647) ∧ ((-2147483648 ≤ l6 + 1 ∧ l6 + 1 ≤ 2147483647) ∧ ab_J x 61 [some (ab_O 0), some (ab_I l1), some (ab_I l2), some (ab_I l3), some (ab_I l4), some (ab_I (l5 + 1)), some (ab_I (l6 + 1)), none, none] [] [w0] kc ks))))) ∧ (¬ l7 = 0 → ((l3 ≤ l8 → ((l7 = 0 → ((-2147483648 ≤ l5 + 0 ∧ l5 + 0 ≤ 2147483647) ∧ ((-2147483648 ≤ l6 + 1 ∧ l6 + 1 ≤ 2147483647) ∧ ab_J x 61 [some (ab_O 0), some (ab_I l1), some (ab_I l2), some (ab_I l3), some (ab_I l4), some (ab_I (l5 + 0)), some (ab_I (l6 + 1)), none, none] [] [w0] kc ks))) ∧ (¬ l7 = 0 → ((-2147483648 ≤ l5 + 1 ∧ l5 + 1 ≤ 2147483647) ∧ ((-2147483648 ≤ l6 + 1 ∧ l6 + 1 ≤ 2147483647) ∧ ab_J x 61 [some (ab_O 0), some (ab_I l1), some (ab_I l2), some (ab_I l3), some (ab_I l4), some (ab_I (l5 + 1)), some (ab_I (l6 + 1)), none, none] [] [w0] kc ks))))) ∧ (¬ l3 ≤ l8 → (∃ r1 : Int, ab_Calls d 0 0 mX9_levelPitch [ab_O 0, ab_I l1, ab_I l8] [w0] (some (ab_I r1)) [w0] ∧ ((-2147483648 ≤ l8 - 1 ∧ l8 - 1 ≤ 2147483647) ∧ (∃ r2 : Int, ab_Calls d 0 0 mX9_levelPitch [ab_O 0, ab_I l1, ab_I (l8 - 1)] [w0] (some (ab_I r2)) [w0] ∧ ((-2147483648 ≤ r1 - r2 ∧ r1 - r2 ≤ 2147483647) ∧ ((-2147483648 ≤ l6 + l8 ∧ l6 + l8 ≤ 2147483647) ∧ (∃ r3 : Int, ab_Calls d 0 0 mX9_levelPitch [ab_O 0, ab_I l2, ab_I (l6 + l8)] [w0] (some (ab_I r3)) [w0] ∧ ((-2147483648 ≤ l6 + l8 ∧ l6 + l8 ≤ 2147483647) ∧ ((-2147483648 ≤ (l6 + l8) - 1 ∧ (l6 + l8) - 1 ≤ 2147483647) ∧ (∃ r4 : Int, ab_Calls d 0 0 mX9_levelPitch [ab_O 0, ab_I l2, ab_I ((l6 + l8) - 1)] [w0] (some (ab_I r4)) [w0] ∧ ((-2147483648 ≤ r3 - r4 ∧ r3 - r4 ≤ 2147483647) ∧ ((¬ (r1 - r2) = (r3 - r4) → ((-2147483648 ≤ l8 + 1 ∧ l8 + 1 ≤ 2147483647) ∧ ab_J x 76 [some (ab_O 0), some (ab_I l1), some (ab_I l2), some (ab_I l3), some (ab_I l4), some (ab_I l5), some (ab_I l6), some (ab_I 0), some (ab_I (l8 + 1))] [] [w0] kc ks)) ∧ ((r1 - r2) = (r3 - r4) → ((-2147483648 ≤ l8 + 1 ∧ l8 + 1 ≤ 2147483647) ∧ ab_J x 76 [some (ab_O 0), some (ab_I l1), some (ab_I l2), some (ab_I l3), some (ab_I l4), some (ab_I l5), some (ab_I l6), some (ab_I 1), some (ab_I (l8 + 1))] [] [w0] kc ks)))))))))))))))))) :
    ab_J x 76 [some (ab_O 0), some (ab_I l1), some (ab_I l2), some (ab_I l3), some (ab_I l4), some (ab_I l5), some (ab_I l6), some (ab_I l7), some (ab_I l8)] [] [w0] kc ks := ab_go hx kX9_echo.2 42 [(61, [true, true, true, true, true, true, true, false, false]), (76, [true, true, true, true, true, true, true, true, true])] 76 h
def mX9_laysBy : ab_M := ((yX9_laysBy, cX9_laysBy, 3, none), ([9], [(0, 0)], [true], false, false, 0), (false, 9, 2))
def rX9_laysBy : List ab_R := [(0, .aload_n 0, 1, 0, 0, 0, [], none),
  (1, .getfield 13, 3, 9, 3, 0, [], none),
  (4, .bipush 48, 2, 0, 0, 0, [], none),
  (6, .iload_n 1, 1, 0, 0, 0, [], none),
  (7, .iadd, 1, 0, 0, 0, [], none),
  (8, .iload_n 2, 1, 0, 0, 0, [], none),
  (9, .iastore, 1, 0, 0, 0, [], none),
  (10, .aload_n 0, 1, 0, 0, 0, [], none),
  (11, .invokevirtual 252, 3, 0, 0, 0, [], some mX9_lays),
  (14, .return_, 1, 0, 0, 0, [], none)]
set_option maxRecDepth 100000 in
theorem kX9_laysBy : ab_def_ok mX9_laysBy rX9_laysBy := ⟨ab_mok_of 1697 110 1696 92 (by decide +kernel), [0, 1205, 0, 0, 0, 0, 0, 0, 1452, 0], by decide +kernel⟩
set_option maxRecDepth 100000 in
theorem vX9_laysBy_0 {x : ab_Cx} {d mc ms : Nat} {Post : Option ab_V → List ab_Ob → Prop} (hx : ab_At x mX9_laysBy d mc ms Post) (a1 a2 : Int) (w0 : ab_Ob) (kc ks : Nat)
    (h : ((-2147483648 ≤ 48 + a1 ∧ 48 + a1 ≤ 2147483647) ∧ ((0 ≤ (48 + a1) ∧ (48 + a1) < (w0.2 3).1) ∧ (∃ v1 : ab_Ob, ab_Calls d 0 0 mX9_lays [ab_O 0] [(ab_pa w0 3 (48 + a1) a2)] none [v1] ∧ Post none [v1])))) :
    ab_J x 0 [some (ab_O 0), some (ab_I a1), some (ab_I a2)] [] [w0] kc ks := ab_go hx kX9_laysBy.2 14 [] 0 h
def mX9_isAsItWas : ab_M := ((yX9_isAsItWas, cX9_isAsItWas, 3, (some .boolean)), ([9], [(0, 0)], [false], false, false, 0), (false, 9, 0))
def rX9_isAsItWas : List ab_R := [(0, .iconst 1, 1, 0, 0, 0, [], none),
  (1, .istore_n 1, 1, 0, 0, 0, [], none),
  (2, .iconst 0, 1, 0, 0, 0, [], none),
  (3, .istore_n 2, 1, 0, 0, 0, [], none),
  (4, .iload_n 2, 1, 0, 0, 0, [], none),
  (5, .aload_n 0, 1, 0, 0, 0, [], none),
  (6, .getfield 324, 3, 9, 40, 0, [], none),
  (9, .if_icmp .ge 64, 3, 0, 0, 0, [73], none),
  (12, .iload_n 1, 1, 0, 0, 0, [], none),
  (13, .ifCond .eq 52, 3, 0, 0, 0, [65], none),
  (16, .aload_n 0, 1, 0, 0, 0, [], none),
  (17, .getfield 73, 3, 9, 42, 0, [], none),
  (20, .iload_n 2, 1, 0, 0, 0, [], none),
  (21, .iaload, 1, 0, 0, 0, [], none),
  (22, .aload_n 0, 1, 0, 0, 0, [], none),
  (23, .getfield 46, 3, 9, 31, 0, [], none),
  (26, .iload_n 2, 1, 0, 0, 0, [], none),
  (27, .iaload, 1, 0, 0, 0, [], none),
  (28, .if_icmp .ne 37, 3, 0, 0, 0, [65], none),
  (31, .aload_n 0, 1, 0, 0, 0, [], none),
  (32, .getfield 76, 3, 9, 43, 0, [], none),
  (35, .iload_n 2, 1, 0, 0, 0, [], none),
  (36, .iaload, 1, 0, 0, 0, [], none),
  (37, .aload_n 0, 1, 0, 0, 0, [], none),
  (38, .getfield 49, 3, 9, 32, 0, [], none),
  (41, .iload_n 2, 1, 0, 0, 0, [], none),
  (42, .iaload, 1, 0, 0, 0, [], none),
  (43, .if_icmp .ne 22, 3, 0, 0, 0, [65], none),
  (46, .aload_n 0, 1, 0, 0, 0, [], none),
  (47, .getfield 79, 3, 9, 44, 0, [], none),
  (50, .iload_n 2, 1, 0, 0, 0, [], none),
  (51, .iaload, 1, 0, 0, 0, [], none),
  (52, .aload_n 0, 1, 0, 0, 0, [], none),
  (53, .getfield 52, 3, 9, 33, 0, [], none),
  (56, .iload_n 2, 1, 0, 0, 0, [], none),
  (57, .iaload, 1, 0, 0, 0, [], none),
  (58, .if_icmp .ne 7, 3, 0, 0, 0, [65], none),
  (61, .iconst 1, 1, 0, 0, 0, [], none),
  (62, .goto 4, 3, 0, 0, 0, [66], none),
  (65, .iconst 0, 1, 0, 0, 0, [], none),
  (66, .istore_n 1, 1, 0, 0, 0, [], none),
  (67, .iinc 2 1, 3, 0, 0, 0, [], none),
  (70, .goto (-66), 3, 0, 0, 0, [4], none),
  (73, .iload_n 1, 1, 0, 0, 0, [], none),
  (74, .ireturn, 1, 0, 0, 0, [], none)]
set_option maxRecDepth 100000 in
theorem kX9_isAsItWas : ab_def_ok mX9_isAsItWas rX9_isAsItWas := ⟨ab_mok_of 1701 110 1700 93 (by decide +kernel), [0, 0, 0, 0, 0, 0, 1242, 0, 0, 0, 0, 1244, 0, 0, 0, 1233, 0, 0, 0, 0, 1245, 0, 0, 0, 1234, 0, 0, 0, 0, 1246, 0, 0, 0, 1235, 0, 0, 0, 0, 0, 0, 0, 0, 0, 0, 0], by decide +kernel⟩
set_option maxRecDepth 100000 in
theorem vX9_isAsItWas_0 {x : ab_Cx} {d mc ms : Nat} {Post : Option ab_V → List ab_Ob → Prop} (hx : ab_At x mX9_isAsItWas d mc ms Post) (w0 : ab_Ob) (kc ks : Nat)
    (h : ab_J x 4 [some (ab_O 0), some (ab_I 1), some (ab_I 0)] [] [w0] kc ks) :
    ab_J x 0 [some (ab_O 0), none, none] [] [w0] kc ks := ab_go hx kX9_isAsItWas.2 9 [(4, [true, true, true])] 0 h
set_option maxRecDepth 100000 in
theorem vX9_isAsItWas_4 {x : ab_Cx} {d mc ms : Nat} {Post : Option ab_V → List ab_Ob → Prop} (hx : ab_At x mX9_isAsItWas d mc ms Post) (l1 l2 : Int) (w0 : ab_Ob) (kc ks : Nat)
    (h : (((w0.1 40) ≤ l2 → ((l1 = 0 ∨ l1 = 1) ∧ Post (some (ab_I l1)) [w0])) ∧ (¬ (w0.1 40) ≤ l2 → ((l1 = 0 → ((-2147483648 ≤ l2 + 1 ∧ l2 + 1 ≤ 2147483647) ∧ ab_J x 4 [some (ab_O 0), some (ab_I 0), some (ab_I (l2 + 1))] [] [w0] kc ks)) ∧ (¬ l1 = 0 → ((0 ≤ l2 ∧ l2 < (w0.2 42).1) ∧ ((0 ≤ l2 ∧ l2 < (w0.2 31).1) ∧ ((¬ ((w0.2 42).2 l2) = ((w0.2 31).2 l2) → ((-2147483648 ≤ l2 + 1 ∧ l2 + 1 ≤ 2147483647) ∧ ab_J x 4 [some (ab_O 0), some (ab_I 0), some (ab_I (l2 + 1))] [] [w0] kc ks)) ∧ (((w0.2 42).2 l2) = ((w0.2 31).2 l2) → ((0 ≤ l2 ∧ l2 < (w0.2 43).1) ∧ ((0 ≤ l2 ∧ l2 < (w0.2 32).1) ∧ ((¬ ((w0.2 43).2 l2) = ((w0.2 32).2 l2) → ((-2147483648 ≤ l2 + 1 ∧ l2 + 1 ≤ 2147483647) ∧ ab_J x 4 [some (ab_O 0), some (ab_I 0), some (ab_I (l2 + 1))] [] [w0] kc ks)) ∧ (((w0.2 43).2 l2) = ((w0.2 32).2 l2) → ((0 ≤ l2 ∧ l2 < (w0.2 44).1) ∧ ((0 ≤ l2 ∧ l2 < (w0.2 33).1) ∧ ((¬ ((w0.2 44).2 l2) = ((w0.2 33).2 l2) → ((-2147483648 ≤ l2 + 1 ∧ l2 + 1 ≤ 2147483647) ∧ ab_J x 4 [some (ab_O 0), some (ab_I 0), some (ab_I (l2 + 1))] [] [w0] kc ks)) ∧ (((w0.2 44).2 l2) = ((w0.2 33).2 l2) → ((-2147483648 ≤ l2 + 1 ∧ l2 + 1 ≤ 2147483647) ∧ ab_J x 4 [some (ab_O 0), some (ab_I 1), some (ab_I (l2 + 1))] [] [w0] kc ks)))))))))))))))))) :
    ab_J x 4 [some (ab_O 0), some (ab_I l1), some (ab_I l2)] [] [w0] kc ks := ab_go hx kX9_isAsItWas.2 43 [(4, [true, true, true])] 4 h
def mX9_firm : ab_M := ((yX9_firm, cX9_firm, 7, (some .int)), ([9], [(0, 0)], [true], false, false, 0), (false, 9, 2))
def rX9_firm : List ab_R := [(0, .aload_n 0, 1, 0, 0, 0, [], none),
  (1, .iconst 0, 1, 0, 0, 0, [], none),
  (2, .putfield 100, 3, 9, 0, 0, [], none),
  (5, .aload_n 0, 1, 0, 0, 0, [], none),
  (6, .getfield 235, 3, 9, 14, 0, [], none),
  (9, .ifCond .eq 10, 3, 0, 0, 0, [19], none),
  (12, .iload_n 1, 1, 0, 0, 0, [], none),
  (13, .invokestatic 311, 3, 0, 0, 0, [], some mX9_isRule),
  (16, .ifCond .ne 9, 3, 0, 0, 0, [25], none),
  (19, .aload_n 0, 1, 0, 0, 0, [], none),
  (20, .iconst 1, 1, 0, 0, 0, [], none),
  (21, .invokevirtual 229, 3, 0, 0, 0, [], some mX9_refused),
  (24, .ireturn, 1, 0, 0, 0, [], none),
  (25, .aload_n 0, 1, 0, 0, 0, [], none),
  (26, .getfield 13, 3, 9, 3, 0, [], none),
  (29, .bipush 48, 2, 0, 0, 0, [], none),
  (31, .iload_n 1, 1, 0, 0, 0, [], none),
  (32, .iadd, 1, 0, 0, 0, [], none),
  (33, .iaload, 1, 0, 0, 0, [], none),
  (34, .istore_n 3, 1, 0, 0, 0, [], none),
  (35, .iconst 0, 1, 0, 0, 0, [], none),
  (36, .istore 4, 2, 0, 0, 0, [], none),
  (38, .iload 4, 2, 0, 0, 0, [], none),
  (40, .aload_n 0, 1, 0, 0, 0, [], none),
  (41, .getfield 324, 3, 9, 40, 0, [], none),
  (44, .if_icmp .ge 51, 3, 0, 0, 0, [95], none),
  (47, .aload_n 0, 1, 0, 0, 0, [], none),
  (48, .getfield 73, 3, 9, 42, 0, [], none),
  (51, .iload 4, 2, 0, 0, 0, [], none),
  (53, .aload_n 0, 1, 0, 0, 0, [], none),
  (54, .getfield 46, 3, 9, 31, 0, [], none),
  (57, .iload 4, 2, 0, 0, 0, [], none),
  (59, .iaload, 1, 0, 0, 0, [], none),
  (60, .iastore, 1, 0, 0, 0, [], none),
  (61, .aload_n 0, 1, 0, 0, 0, [], none),
  (62, .getfield 76, 3, 9, 43, 0, [], none),
  (65, .iload 4, 2, 0, 0, 0, [], none),
  (67, .aload_n 0, 1, 0, 0, 0, [], none),
  (68, .getfield 49, 3, 9, 32, 0, [], none),
  (71, .iload 4, 2, 0, 0, 0, [], none),
  (73, .iaload, 1, 0, 0, 0, [], none),
  (74, .iastore, 1, 0, 0, 0, [], none),
  (75, .aload_n 0, 1, 0, 0, 0, [], none),
  (76, .getfield 79, 3, 9, 44, 0, [], none),
  (79, .iload 4, 2, 0, 0, 0, [], none),
  (81, .aload_n 0, 1, 0, 0, 0, [], none),
  (82, .getfield 52, 3, 9, 33, 0, [], none),
  (85, .iload 4, 2, 0, 0, 0, [], none),
  (87, .iaload, 1, 0, 0, 0, [], none),
  (88, .iastore, 1, 0, 0, 0, [], none),
  (89, .iinc 4 1, 3, 0, 0, 0, [], none),
  (92, .goto (-54), 3, 0, 0, 0, [38], none),
  (95, .iload_n 2, 1, 0, 0, 0, [], none),
  (96, .ifCond .eq 7, 3, 0, 0, 0, [103], none),
  (99, .iconst 1, 1, 0, 0, 0, [], none),
  (100, .goto 4, 3, 0, 0, 0, [104], none),
  (103, .iconst (-1), 1, 0, 0, 0, [], none),
  (104, .istore 4, 2, 0, 0, 0, [], none),
  (106, .iload_n 3, 1, 0, 0, 0, [], none),
  (107, .istore 5, 2, 0, 0, 0, [], none),
  (109, .iconst 1, 1, 0, 0, 0, [], none),
  (110, .istore 6, 2, 0, 0, 0, [], none),
  (112, .iload 6, 2, 0, 0, 0, [], none),
  (114, .ifCond .eq 52, 3, 0, 0, 0, [166], none),
  (117, .iload 5, 2, 0, 0, 0, [], none),
  (119, .iload 4, 2, 0, 0, 0, [], none),
  (121, .iadd, 1, 0, 0, 0, [], none),
  (122, .iconst 0, 1, 0, 0, 0, [], none),
  (123, .bipush 99, 2, 0, 0, 0, [], none),
  (125, .invokestatic 125, 3, 0, 0, 0, [], some mX9_in),
  (128, .ifCond .eq 38, 3, 0, 0, 0, [166], none),
  (131, .aload_n 0, 1, 0, 0, 0, [], none),
  (132, .iload_n 1, 1, 0, 0, 0, [], none),
  (133, .iload 5, 2, 0, 0, 0, [], none),
  (135, .iload 4, 2, 0, 0, 0, [], none),
  (137, .iadd, 1, 0, 0, 0, [], none),
  (138, .invokevirtual 370, 3, 0, 0, 0, [], some mX9_laysBy),
  (141, .aload_n 0, 1, 0, 0, 0, [], none),
  (142, .invokevirtual 374, 3, 0, 0, 0, [], some mX9_isAsItWas),
  (145, .istore 6, 2, 0, 0, 0, [], none),
  (147, .iload 5, 2, 0, 0, 0, [], none),
  (149, .iload 6, 2, 0, 0, 0, [], none),
  (151, .ifCond .eq 8, 3, 0, 0, 0, [159], none),
  (154, .iload 4, 2, 0, 0, 0, [], none),
  (156, .goto 4, 3, 0, 0, 0, [160], none),
  (159, .iconst 0, 1, 0, 0, 0, [], none),
  (160, .iadd, 1, 0, 0, 0, [], none),
  (161, .istore 5, 2, 0, 0, 0, [], none),
  (163, .goto (-51), 3, 0, 0, 0, [112], none),
  (166, .aload_n 0, 1, 0, 0, 0, [], none),
  (167, .iload_n 1, 1, 0, 0, 0, [], none),
  (168, .iload_n 3, 1, 0, 0, 0, [], none),
  (169, .invokevirtual 370, 3, 0, 0, 0, [], some mX9_laysBy),
  (172, .aload_n 0, 1, 0, 0, 0, [], none),
  (173, .iload 5, 2, 0, 0, 0, [], none),
  (175, .invokevirtual 255, 3, 0, 0, 0, [], some mX9_good),
  (178, .ireturn, 1, 0, 0, 0, [], none)]
set_option maxRecDepth 100000 in
theorem kX9_firm : ab_def_ok mX9_firm rX9_firm := ⟨ab_mok_of 1693 110 1691 1692 (by decide +kernel), [0, 0, 1202, 0, 1216, 0, 0, 1547, 0, 0, 0, 1371, 0, 0, 1205, 0, 0, 0, 0, 0, 0, 0, 0, 0, 1242, 0, 0, 1244, 0, 0, 1233, 0, 0, 0, 0, 1245, 0, 0, 1234, 0, 0, 0, 0, 1246, 0, 0, 1235, 0, 0, 0, 0, 0, 0, 0, 0, 0, 0, 0, 0, 0, 0, 0, 0, 0, 0, 0, 0, 0, 0, 1387, 0, 0, 0, 0, 0, 0, 1694, 0, 1698, 0, 0, 0, 0, 0, 0, 0, 0, 0, 0, 0, 0, 0, 1694, 0, 0, 1519, 0], by decide +kernel⟩
set_option maxRecDepth 100000 in
theorem vX9_firm_0 {x : ab_Cx} {d mc ms : Nat} {Post : Option ab_V → List ab_Ob → Prop} (hx : ab_At x mX9_firm d mc ms Post) (a1 a2 : Int) (w0 : ab_Ob) (kc ks : Nat)
    (h : (((w0.1 14) = 0 → (∃ r1 : Int, ∃ v2 : ab_Ob, ab_Calls d 0 0 mX9_refused [ab_O 0, ab_I 1] [(ab_pf w0 0 0)] (some (ab_I r1)) [v2] ∧ Post (some (ab_I r1)) [v2])) ∧ (¬ (w0.1 14) = 0 → (∃ r3 : Int, ab_Calls d 0 0 mX9_isRule [ab_I a1] [] (some (ab_I r3)) [] ∧ ((¬ r3 = 0 → ((-2147483648 ≤ 48 + a1 ∧ 48 + a1 ≤ 2147483647) ∧ ((0 ≤ (48 + a1) ∧ (48 + a1) < (w0.2 3).1) ∧ ab_J x 38 [some (ab_O 0), some (ab_I a1), some (ab_I a2), some (ab_I ((w0.2 3).2 (48 + a1))), some (ab_I 0), none, none] [] [(ab_pf w0 0 0)] kc ks))) ∧ (r3 = 0 → (∃ r4 : Int, ∃ v5 : ab_Ob, ab_Calls d 0 0 mX9_refused [ab_O 0, ab_I 1] [(ab_pf w0 0 0)] (some (ab_I r4)) [v5] ∧ Post (some (ab_I r4)) [v5]))))))) :
    ab_J x 0 [some (ab_O 0), some (ab_I a1), some (ab_I a2), none, none, none, none] [] [w0] kc ks := ab_go hx kX9_firm.2 23 [(38, [true, true, true, true, true, false, false]), (112, [true, true, false, true, true, true, true])] 0 h
set_option maxRecDepth 100000 in
theorem vX9_firm_38 {x : ab_Cx} {d mc ms : Nat} {Post : Option ab_V → List ab_Ob → Prop} (hx : ab_At x mX9_firm d mc ms Post) (l1 l2 l3 l4 : Int) (w0 : ab_Ob) (kc ks : Nat)
    (h : (((w0.1 40) ≤ l4 → ((l2 = 0 → ab_J x 112 [some (ab_O 0), some (ab_I l1), none, some (ab_I l3), some (ab_I (-1)), some (ab_I l3), some (ab_I 1)] [] [w0] kc ks) ∧ (¬ l2 = 0 → ab_J x 112 [some (ab_O 0), some (ab_I l1), none, some (ab_I l3), some (ab_I 1), some (ab_I l3), some (ab_I 1)] [] [w0] kc ks))) ∧ (¬ (w0.1 40) ≤ l4 → ((0 ≤ l4 ∧ l4 < (w0.2 31).1) ∧ ((0 ≤ l4 ∧ l4 < (w0.2 42).1) ∧ ((0 ≤ l4 ∧ l4 < (w0.2 32).1) ∧ ((0 ≤ l4 ∧ l4 < (w0.2 43).1) ∧ ((0 ≤ l4 ∧ l4 < (w0.2 33).1) ∧ ((0 ≤ l4 ∧ l4 < (w0.2 44).1) ∧ ((-2147483648 ≤ l4 + 1 ∧ l4 + 1 ≤ 2147483647) ∧ ab_J x 38 [some (ab_O 0), some (ab_I l1), some (ab_I l2), some (ab_I l3), some (ab_I (l4 + 1)), none, none] [] [(ab_pa (ab_pa (ab_pa w0 42 l4 ((w0.2 31).2 l4)) 43 l4 ((w0.2 32).2 l4)) 44 l4 ((w0.2 33).2 l4))] kc ks)))))))))) :
    ab_J x 38 [some (ab_O 0), some (ab_I l1), some (ab_I l2), some (ab_I l3), some (ab_I l4), none, none] [] [w0] kc ks := ab_go hx kX9_firm.2 35 [(38, [true, true, true, true, true, false, false]), (112, [true, true, false, true, true, true, true])] 38 h
set_option maxRecDepth 100000 in
theorem vX9_firm_112 {x : ab_Cx} {d mc ms : Nat} {Post : Option ab_V → List ab_Ob → Prop} (hx : ab_At x mX9_firm d mc ms Post) (l1 l3 l4 l5 l6 : Int) (w0 : ab_Ob) (kc ks : Nat)
    (h : ((l6 = 0 → (∃ v1 : ab_Ob, ab_Calls d 0 0 mX9_laysBy [ab_O 0, ab_I l1, ab_I l3] [w0] none [v1] ∧ (∃ r2 : Int, ∃ v3 : ab_Ob, ab_Calls d 0 0 mX9_good [ab_O 0, ab_I l5] [v1] (some (ab_I r2)) [v3] ∧ Post (some (ab_I r2)) [v3]))) ∧ (¬ l6 = 0 → ((-2147483648 ≤ l5 + l4 ∧ l5 + l4 ≤ 2147483647) ∧ (∃ r4 : Int, ab_Calls d 0 0 mX9_in [ab_I (l5 + l4), ab_I 0, ab_I 99] [] (some (ab_I r4)) [] ∧ ((r4 = 0 → (∃ v5 : ab_Ob, ab_Calls d 0 0 mX9_laysBy [ab_O 0, ab_I l1, ab_I l3] [w0] none [v5] ∧ (∃ r6 : Int, ∃ v7 : ab_Ob, ab_Calls d 0 0 mX9_good [ab_O 0, ab_I l5] [v5] (some (ab_I r6)) [v7] ∧ Post (some (ab_I r6)) [v7]))) ∧ (¬ r4 = 0 → ((-2147483648 ≤ l5 + l4 ∧ l5 + l4 ≤ 2147483647) ∧ (∃ v8 : ab_Ob, ab_Calls d 0 0 mX9_laysBy [ab_O 0, ab_I l1, ab_I (l5 + l4)] [w0] none [v8] ∧ (∃ r9 : Int, ab_Calls d 0 0 mX9_isAsItWas [ab_O 0] [v8] (some (ab_I r9)) [v8] ∧ ((r9 = 0 → ((-2147483648 ≤ l5 + 0 ∧ l5 + 0 ≤ 2147483647) ∧ ab_J x 112 [some (ab_O 0), some (ab_I l1), none, some (ab_I l3), some (ab_I l4), some (ab_I (l5 + 0)), some (ab_I r9)] [] [v8] kc ks)) ∧ (¬ r9 = 0 → ((-2147483648 ≤ l5 + l4 ∧ l5 + l4 ≤ 2147483647) ∧ ab_J x 112 [some (ab_O 0), some (ab_I l1), none, some (ab_I l3), some (ab_I l4), some (ab_I (l5 + l4)), some (ab_I r9)] [] [v8] kc ks))))))))))))) :
    ab_J x 112 [some (ab_O 0), some (ab_I l1), none, some (ab_I l3), some (ab_I l4), some (ab_I l5), some (ab_I l6)] [] [w0] kc ks := ab_go hx kX9_firm.2 31 [(38, [true, true, true, true, true, false, false]), (112, [true, true, false, true, true, true, true])] 112 h
def mX9_sways : ab_M := ((yX9_sways, cX9_sways, 6, (some .int)), ([9], [(0, 0)], [true], false, false, 0), (false, 9, 2))
def rX9_sways : List ab_R := [(0, .aload_n 0, 1, 0, 0, 0, [], none),
  (1, .iconst 0, 1, 0, 0, 0, [], none),
  (2, .putfield 100, 3, 9, 0, 0, [], none),
  (5, .aload_n 0, 1, 0, 0, 0, [], none),
  (6, .iload_n 2, 1, 0, 0, 0, [], none),
  (7, .invokevirtual 307, 3, 0, 0, 0, [], some mX9_isNote),
  (10, .ifCond .eq 10, 3, 0, 0, 0, [20], none),
  (13, .iload_n 1, 1, 0, 0, 0, [], none),
  (14, .invokestatic 311, 3, 0, 0, 0, [], some mX9_isRule),
  (17, .ifCond .ne 9, 3, 0, 0, 0, [26], none),
  (20, .aload_n 0, 1, 0, 0, 0, [], none),
  (21, .iconst 1, 1, 0, 0, 0, [], none),
  (22, .invokevirtual 229, 3, 0, 0, 0, [], some mX9_refused),
  (25, .ireturn, 1, 0, 0, 0, [], none),
  (26, .aload_n 0, 1, 0, 0, 0, [], none),
  (27, .getfield 13, 3, 9, 3, 0, [], none),
  (30, .bipush 48, 2, 0, 0, 0, [], none),
  (32, .iload_n 1, 1, 0, 0, 0, [], none),
  (33, .iadd, 1, 0, 0, 0, [], none),
  (34, .iaload, 1, 0, 0, 0, [], none),
  (35, .istore_n 3, 1, 0, 0, 0, [], none),
  (36, .bipush (-2), 2, 0, 0, 0, [], none),
  (38, .istore 4, 2, 0, 0, 0, [], none),
  (40, .iconst 0, 1, 0, 0, 0, [], none),
  (41, .istore 5, 2, 0, 0, 0, [], none),
  (43, .iload 5, 2, 0, 0, 0, [], none),
  (45, .bipush 99, 2, 0, 0, 0, [], none),
  (47, .if_icmp .gt 42, 3, 0, 0, 0, [89], none),
  (50, .iload 4, 2, 0, 0, 0, [], none),
  (52, .bipush (-2), 2, 0, 0, 0, [], none),
  (54, .if_icmp .ne 35, 3, 0, 0, 0, [89], none),
  (57, .aload_n 0, 1, 0, 0, 0, [], none),
  (58, .iload_n 1, 1, 0, 0, 0, [], none),
  (59, .iload 5, 2, 0, 0, 0, [], none),
  (61, .invokevirtual 370, 3, 0, 0, 0, [], some mX9_laysBy),
  (64, .aload_n 0, 1, 0, 0, 0, [], none),
  (65, .iconst 0, 1, 0, 0, 0, [], none),
  (66, .aload_n 0, 1, 0, 0, 0, [], none),
  (67, .getfield 246, 3, 9, 8, 0, [], none),
  (70, .iconst 1, 1, 0, 0, 0, [], none),
  (71, .isub, 1, 0, 0, 0, [], none),
  (72, .invokevirtual 318, 3, 0, 0, 0, [], some mX9_headOf),
  (75, .iload_n 2, 1, 0, 0, 0, [], none),
  (76, .if_icmp .ne 7, 3, 0, 0, 0, [83], none),
  (79, .iload 5, 2, 0, 0, 0, [], none),
  (81, .istore 4, 2, 0, 0, 0, [], none),
  (83, .iinc 5 1, 3, 0, 0, 0, [], none),
  (86, .goto (-43), 3, 0, 0, 0, [43], none),
  (89, .aload_n 0, 1, 0, 0, 0, [], none),
  (90, .iload_n 1, 1, 0, 0, 0, [], none),
  (91, .iload_n 3, 1, 0, 0, 0, [], none),
  (92, .invokevirtual 370, 3, 0, 0, 0, [], some mX9_laysBy),
  (95, .aload_n 0, 1, 0, 0, 0, [], none),
  (96, .iload 4, 2, 0, 0, 0, [], none),
  (98, .invokevirtual 255, 3, 0, 0, 0, [], some mX9_good),
  (101, .ireturn, 1, 0, 0, 0, [], none)]
set_option maxRecDepth 100000 in
theorem kX9_sways : ab_def_ok mX9_sways rX9_sways := ⟨ab_mok_of 1705 110 1703 1704 (by decide +kernel), [0, 0, 1202, 0, 0, 1539, 0, 0, 1547, 0, 0, 0, 1371, 0, 0, 1205, 0, 0, 0, 0, 0, 0, 0, 0, 0, 0, 0, 0, 0, 0, 0, 0, 0, 0, 1694, 0, 0, 0, 1210, 0, 0, 1511, 0, 0, 0, 0, 0, 0, 0, 0, 0, 1694, 0, 0, 1519, 0], by decide +kernel⟩
set_option maxRecDepth 100000 in
theorem vX9_sways_0 {x : ab_Cx} {d mc ms : Nat} {Post : Option ab_V → List ab_Ob → Prop} (hx : ab_At x mX9_sways d mc ms Post) (a1 a2 : Int) (w0 : ab_Ob) (kc ks : Nat)
    (h : (∃ r1 : Int, ab_Calls d 0 0 mX9_isNote [ab_O 0, ab_I a2] [(ab_pf w0 0 0)] (some (ab_I r1)) [(ab_pf w0 0 0)] ∧ ((r1 = 0 → (∃ r2 : Int, ∃ v3 : ab_Ob, ab_Calls d 0 0 mX9_refused [ab_O 0, ab_I 1] [(ab_pf w0 0 0)] (some (ab_I r2)) [v3] ∧ Post (some (ab_I r2)) [v3])) ∧ (¬ r1 = 0 → (∃ r4 : Int, ab_Calls d 0 0 mX9_isRule [ab_I a1] [] (some (ab_I r4)) [] ∧ ((¬ r4 = 0 → ((-2147483648 ≤ 48 + a1 ∧ 48 + a1 ≤ 2147483647) ∧ ((0 ≤ (48 + a1) ∧ (48 + a1) < (w0.2 3).1) ∧ ab_J x 43 [some (ab_O 0), some (ab_I a1), some (ab_I a2), some (ab_I ((w0.2 3).2 (48 + a1))), some (ab_I (-2)), some (ab_I 0)] [] [(ab_pf w0 0 0)] kc ks))) ∧ (r4 = 0 → (∃ r5 : Int, ∃ v6 : ab_Ob, ab_Calls d 0 0 mX9_refused [ab_O 0, ab_I 1] [(ab_pf w0 0 0)] (some (ab_I r5)) [v6] ∧ Post (some (ab_I r5)) [v6])))))))) :
    ab_J x 0 [some (ab_O 0), some (ab_I a1), some (ab_I a2), none, none, none] [] [w0] kc ks := ab_go hx kX9_sways.2 26 [(43, [true, true, true, true, true, true])] 0 h
set_option maxRecDepth 100000 in
theorem vX9_sways_43 {x : ab_Cx} {d mc ms : Nat} {Post : Option ab_V → List ab_Ob → Prop} (hx : ab_At x mX9_sways d mc ms Post) (l1 l2 l3 l4 l5 : Int) (w0 : ab_Ob) (kc ks : Nat)
    (h : ((99 < l5 → (∃ v1 : ab_Ob, ab_Calls d 0 0 mX9_laysBy [ab_O 0, ab_I l1, ab_I l3] [w0] none [v1] ∧ (∃ r2 : Int, ∃ v3 : ab_Ob, ab_Calls d 0 0 mX9_good [ab_O 0, ab_I l4] [v1] (some (ab_I r2)) [v3] ∧ Post (some (ab_I r2)) [v3]))) ∧ (¬ 99 < l5 → ((¬ l4 = (-2) → (∃ v4 : ab_Ob, ab_Calls d 0 0 mX9_laysBy [ab_O 0, ab_I l1, ab_I l3] [w0] none [v4] ∧ (∃ r5 : Int, ∃ v6 : ab_Ob, ab_Calls d 0 0 mX9_good [ab_O 0, ab_I l4] [v4] (some (ab_I r5)) [v6] ∧ Post (some (ab_I r5)) [v6]))) ∧ (l4 = (-2) → (∃ v7 : ab_Ob, ab_Calls d 0 0 mX9_laysBy [ab_O 0, ab_I l1, ab_I l5] [w0] none [v7] ∧ ((-2147483648 ≤ (v7.1 8) - 1 ∧ (v7.1 8) - 1 ≤ 2147483647) ∧ (∃ r8 : Int, ab_Calls d 0 0 mX9_headOf [ab_O 0, ab_I 0, ab_I ((v7.1 8) - 1)] [v7] (some (ab_I r8)) [v7] ∧ ((¬ r8 = l2 → ((-2147483648 ≤ l5 + 1 ∧ l5 + 1 ≤ 2147483647) ∧ ab_J x 43 [some (ab_O 0), some (ab_I l1), some (ab_I l2), some (ab_I l3), some (ab_I l4), some (ab_I (l5 + 1))] [] [v7] kc ks)) ∧ (r8 = l2 → ((-2147483648 ≤ l5 + 1 ∧ l5 + 1 ≤ 2147483647) ∧ ab_J x 43 [some (ab_O 0), some (ab_I l1), some (ab_I l2), some (ab_I l3), some (ab_I l5), some (ab_I (l5 + 1))] [] [v7] kc ks))))))))))) :
    ab_J x 43 [some (ab_O 0), some (ab_I l1), some (ab_I l2), some (ab_I l3), some (ab_I l4), some (ab_I l5)] [] [w0] kc ks := ab_go hx kX9_sways.2 28 [(43, [true, true, true, true, true, true])] 43 h
def mX9_swayed : ab_M := ((yX9_swayed, cX9_swayed, 5, (some .int)), ([9], [(0, 0)], [true], false, false, 0), (false, 9, 2))
def rX9_swayed : List ab_R := [(0, .aload_n 0, 1, 0, 0, 0, [], none),
  (1, .iconst 0, 1, 0, 0, 0, [], none),
  (2, .putfield 100, 3, 9, 0, 0, [], none),
  (5, .aload_n 0, 1, 0, 0, 0, [], none),
  (6, .getfield 235, 3, 9, 14, 0, [], none),
  (9, .ifCond .eq 10, 3, 0, 0, 0, [19], none),
  (12, .iload_n 1, 1, 0, 0, 0, [], none),
  (13, .invokestatic 311, 3, 0, 0, 0, [], some mX9_isRule),
  (16, .ifCond .ne 9, 3, 0, 0, 0, [25], none),
  (19, .aload_n 0, 1, 0, 0, 0, [], none),
  (20, .iconst 1, 1, 0, 0, 0, [], none),
  (21, .invokevirtual 229, 3, 0, 0, 0, [], some mX9_refused),
  (24, .ireturn, 1, 0, 0, 0, [], none),
  (25, .iload_n 2, 1, 0, 0, 0, [], none),
  (26, .iconst 0, 1, 0, 0, 0, [], none),
  (27, .bipush 99, 2, 0, 0, 0, [], none),
  (29, .invokestatic 125, 3, 0, 0, 0, [], some mX9_in),
  (32, .ifCond .ne 9, 3, 0, 0, 0, [41], none),
  (35, .aload_n 0, 1, 0, 0, 0, [], none),
  (36, .iconst 2, 1, 0, 0, 0, [], none),
  (37, .invokevirtual 229, 3, 0, 0, 0, [], some mX9_refused),
  (40, .ireturn, 1, 0, 0, 0, [], none),
  (41, .aload_n 0, 1, 0, 0, 0, [], none),
  (42, .getfield 13, 3, 9, 3, 0, [], none),
  (45, .bipush 48, 2, 0, 0, 0, [], none),
  (47, .iload_n 1, 1, 0, 0, 0, [], none),
  (48, .iadd, 1, 0, 0, 0, [], none),
  (49, .iaload, 1, 0, 0, 0, [], none),
  (50, .istore_n 3, 1, 0, 0, 0, [], none),
  (51, .aload_n 0, 1, 0, 0, 0, [], none),
  (52, .iload_n 1, 1, 0, 0, 0, [], none),
  (53, .iload_n 2, 1, 0, 0, 0, [], none),
  (54, .invokevirtual 370, 3, 0, 0, 0, [], some mX9_laysBy),
  (57, .aload_n 0, 1, 0, 0, 0, [], none),
  (58, .getfield 33, 3, 9, 27, 0, [], none),
  (61, .iconst 0, 1, 0, 0, 0, [], none),
  (62, .aload_n 0, 1, 0, 0, 0, [], none),
  (63, .getfield 246, 3, 9, 8, 0, [], none),
  (66, .iconst 1, 1, 0, 0, 0, [], none),
  (67, .isub, 1, 0, 0, 0, [], none),
  (68, .aload_n 0, 1, 0, 0, 0, [], none),
  (69, .iconst 0, 1, 0, 0, 0, [], none),
  (70, .aload_n 0, 1, 0, 0, 0, [], none),
  (71, .getfield 246, 3, 9, 8, 0, [], none),
  (74, .iconst 1, 1, 0, 0, 0, [], none),
  (75, .isub, 1, 0, 0, 0, [], none),
  (76, .invokevirtual 318, 3, 0, 0, 0, [], some mX9_headOf),
  (79, .invokestatic 289, 3, 0, 0, 0, [], some mX9_cube),
  (82, .iaload, 1, 0, 0, 0, [], none),
  (83, .istore 4, 2, 0, 0, 0, [], none),
  (85, .aload_n 0, 1, 0, 0, 0, [], none),
  (86, .iload_n 1, 1, 0, 0, 0, [], none),
  (87, .iload_n 3, 1, 0, 0, 0, [], none),
  (88, .invokevirtual 370, 3, 0, 0, 0, [], some mX9_laysBy),
  (91, .aload_n 0, 1, 0, 0, 0, [], none),
  (92, .iload 4, 2, 0, 0, 0, [], none),
  (94, .invokevirtual 255, 3, 0, 0, 0, [], some mX9_good),
  (97, .ireturn, 1, 0, 0, 0, [], none)]
set_option maxRecDepth 100000 in
theorem kX9_swayed : ab_def_ok mX9_swayed rX9_swayed := ⟨ab_mok_of 1709 110 1707 1708 (by decide +kernel), [0, 0, 1202, 0, 1216, 0, 0, 1547, 0, 0, 0, 1371, 0, 0, 0, 0, 1387, 0, 0, 0, 1371, 0, 0, 1205, 0, 0, 0, 0, 0, 0, 0, 0, 1694, 0, 1229, 0, 0, 1210, 0, 0, 0, 0, 0, 1210, 0, 0, 1511, 1480, 0, 0, 0, 0, 0, 1694, 0, 0, 1519, 0], by decide +kernel⟩
set_option maxRecDepth 100000 in
theorem vX9_swayed_0 {x : ab_Cx} {d mc ms : Nat} {Post : Option ab_V → List ab_Ob → Prop} (hx : ab_At x mX9_swayed d mc ms Post) (a1 a2 : Int) (w0 : ab_Ob) (kc ks : Nat)
    (h : (((w0.1 14) = 0 → (∃ r1 : Int, ∃ v2 : ab_Ob, ab_Calls d 0 0 mX9_refused [ab_O 0, ab_I 1] [(ab_pf w0 0 0)] (some (ab_I r1)) [v2] ∧ Post (some (ab_I r1)) [v2])) ∧ (¬ (w0.1 14) = 0 → (∃ r3 : Int, ab_Calls d 0 0 mX9_isRule [ab_I a1] [] (some (ab_I r3)) [] ∧ ((¬ r3 = 0 → (∃ r4 : Int, ab_Calls d 0 0 mX9_in [ab_I a2, ab_I 0, ab_I 99] [] (some (ab_I r4)) [] ∧ ((¬ r4 = 0 → ((-2147483648 ≤ 48 + a1 ∧ 48 + a1 ≤ 2147483647) ∧ ((0 ≤ (48 + a1) ∧ (48 + a1) < (w0.2 3).1) ∧ (∃ v5 : ab_Ob, ab_Calls d 0 0 mX9_laysBy [ab_O 0, ab_I a1, ab_I a2] [(ab_pf w0 0 0)] none [v5] ∧ ((-2147483648 ≤ (v5.1 8) - 1 ∧ (v5.1 8) - 1 ≤ 2147483647) ∧ ((-2147483648 ≤ (v5.1 8) - 1 ∧ (v5.1 8) - 1 ≤ 2147483647) ∧ (∃ r6 : Int, ab_Calls d 0 0 mX9_headOf [ab_O 0, ab_I 0, ab_I ((v5.1 8) - 1)] [v5] (some (ab_I r6)) [v5] ∧ (∃ r7 : Int, ab_Calls d 0 0 mX9_cube [ab_I 0, ab_I ((v5.1 8) - 1), ab_I r6] [] (some (ab_I r7)) [] ∧ ((0 ≤ r7 ∧ r7 < (v5.2 27).1) ∧ (∃ v8 : ab_Ob, ab_Calls d 0 0 mX9_laysBy [ab_O 0, ab_I a1, ab_I ((w0.2 3).2 (48 + a1))] [v5] none [v8] ∧ (∃ r9 : Int, ∃ v10 : ab_Ob, ab_Calls d 0 0 mX9_good [ab_O 0, ab_I ((v5.2 27).2 r7)] [v8] (some (ab_I r9)) [v10] ∧ Post (some (ab_I r9)) [v10]))))))))))) ∧ (r4 = 0 → (∃ r11 : Int, ∃ v12 : ab_Ob, ab_Calls d 0 0 mX9_refused [ab_O 0, ab_I 2] [(ab_pf w0 0 0)] (some (ab_I r11)) [v12] ∧ Post (some (ab_I r11)) [v12]))))) ∧ (r3 = 0 → (∃ r13 : Int, ∃ v14 : ab_Ob, ab_Calls d 0 0 mX9_refused [ab_O 0, ab_I 1] [(ab_pf w0 0 0)] (some (ab_I r13)) [v14] ∧ Post (some (ab_I r13)) [v14]))))))) :
    ab_J x 0 [some (ab_O 0), some (ab_I a1), some (ab_I a2), none, none] [] [w0] kc ks := ab_go hx kX9_swayed.2 54 [] 0 h
def mX9_areTwins : ab_M := ((yX9_areTwins, cX9_areTwins, 5, (some .boolean)), ([9], [(0, 0)], [false], false, false, 0), (false, 9, 3))
def rX9_areTwins : List ab_R := [(0, .iload_n 1, 1, 0, 0, 0, [], none),
  (1, .iload_n 2, 1, 0, 0, 0, [], none),
  (2, .if_icmp .ne 5, 3, 0, 0, 0, [7], none),
  (5, .iconst 1, 1, 0, 0, 0, [], none),
  (6, .ireturn, 1, 0, 0, 0, [], none),
  (7, .iload_n 1, 1, 0, 0, 0, [], none),
  (8, .iload_n 3, 1, 0, 0, 0, [], none),
  (9, .iadd, 1, 0, 0, 0, [], none),
  (10, .aload_n 0, 1, 0, 0, 0, [], none),
  (11, .getfield 246, 3, 9, 8, 0, [], none),
  (14, .if_icmp .eq 13, 3, 0, 0, 0, [27], none),
  (17, .iload_n 2, 1, 0, 0, 0, [], none),
  (18, .iload_n 3, 1, 0, 0, 0, [], none),
  (19, .iadd, 1, 0, 0, 0, [], none),
  (20, .aload_n 0, 1, 0, 0, 0, [], none),
  (21, .getfield 246, 3, 9, 8, 0, [], none),
  (24, .if_icmp .ne 5, 3, 0, 0, 0, [29], none),
  (27, .iconst 0, 1, 0, 0, 0, [], none),
  (28, .ireturn, 1, 0, 0, 0, [], none),
  (29, .iconst 0, 1, 0, 0, 0, [], none),
  (30, .istore 4, 2, 0, 0, 0, [], none),
  (32, .iload 4, 2, 0, 0, 0, [], none),
  (34, .iload_n 3, 1, 0, 0, 0, [], none),
  (35, .if_icmp .ge 105, 3, 0, 0, 0, [140], none),
  (38, .aload_n 0, 1, 0, 0, 0, [], none),
  (39, .iload_n 1, 1, 0, 0, 0, [], none),
  (40, .iload 4, 2, 0, 0, 0, [], none),
  (42, .iadd, 1, 0, 0, 0, [], none),
  (43, .invokevirtual 258, 3, 0, 0, 0, [], some mX9_lasts),
  (46, .aload_n 0, 1, 0, 0, 0, [], none),
  (47, .iload_n 2, 1, 0, 0, 0, [], none),
  (48, .iload 4, 2, 0, 0, 0, [], none),
  (50, .iadd, 1, 0, 0, 0, [], none),
  (51, .invokevirtual 258, 3, 0, 0, 0, [], some mX9_lasts),
  (54, .if_icmp .ne 45, 3, 0, 0, 0, [99], none),
  (57, .aload_n 0, 1, 0, 0, 0, [], none),
  (58, .getfield 27, 3, 9, 25, 0, [], none),
  (61, .iload_n 1, 1, 0, 0, 0, [], none),
  (62, .iload 4, 2, 0, 0, 0, [], none),
  (64, .iadd, 1, 0, 0, 0, [], none),
  (65, .iaload, 1, 0, 0, 0, [], none),
  (66, .aload_n 0, 1, 0, 0, 0, [], none),
  (67, .getfield 27, 3, 9, 25, 0, [], none),
  (70, .iload_n 2, 1, 0, 0, 0, [], none),
  (71, .iload 4, 2, 0, 0, 0, [], none),
  (73, .iadd, 1, 0, 0, 0, [], none),
  (74, .iaload, 1, 0, 0, 0, [], none),
  (75, .if_icmp .ne 24, 3, 0, 0, 0, [99], none),
  (78, .aload_n 0, 1, 0, 0, 0, [], none),
  (79, .getfield 30, 3, 9, 26, 0, [], none),
  (82, .iload_n 1, 1, 0, 0, 0, [], none),
  (83, .iload 4, 2, 0, 0, 0, [], none),
  (85, .iadd, 1, 0, 0, 0, [], none),
  (86, .iaload, 1, 0, 0, 0, [], none),
  (87, .aload_n 0, 1, 0, 0, 0, [], none),
  (88, .getfield 30, 3, 9, 26, 0, [], none),
  (91, .iload_n 2, 1, 0, 0, 0, [], none),
  (92, .iload 4, 2, 0, 0, 0, [], none),
  (94, .iadd, 1, 0, 0, 0, [], none),
  (95, .iaload, 1, 0, 0, 0, [], none),
  (96, .if_icmp .eq 5, 3, 0, 0, 0, [101], none),
  (99, .iconst 0, 1, 0, 0, 0, [], none),
  (100, .ireturn, 1, 0, 0, 0, [], none),
  (101, .aload_n 0, 1, 0, 0, 0, [], none),
  (102, .iload_n 1, 1, 0, 0, 0, [], none),
  (103, .iload 4, 2, 0, 0, 0, [], none),
  (105, .iadd, 1, 0, 0, 0, [], none),
  (106, .invokevirtual 264, 3, 0, 0, 0, [], some mX9_pitchOf),
  (109, .aload_n 0, 1, 0, 0, 0, [], none),
  (110, .iload_n 2, 1, 0, 0, 0, [], none),
  (111, .iload 4, 2, 0, 0, 0, [], none),
  (113, .iadd, 1, 0, 0, 0, [], none),
  (114, .invokevirtual 264, 3, 0, 0, 0, [], some mX9_pitchOf),
  (117, .isub, 1, 0, 0, 0, [], none),
  (118, .aload_n 0, 1, 0, 0, 0, [], none),
  (119, .iload_n 1, 1, 0, 0, 0, [], none),
  (120, .invokevirtual 264, 3, 0, 0, 0, [], some mX9_pitchOf),
  (123, .aload_n 0, 1, 0, 0, 0, [], none),
  (124, .iload_n 2, 1, 0, 0, 0, [], none),
  (125, .invokevirtual 264, 3, 0, 0, 0, [], some mX9_pitchOf),
  (128, .isub, 1, 0, 0, 0, [], none),
  (129, .if_icmp .eq 5, 3, 0, 0, 0, [134], none),
  (132, .iconst 0, 1, 0, 0, 0, [], none),
  (133, .ireturn, 1, 0, 0, 0, [], none),
  (134, .iinc 4 1, 3, 0, 0, 0, [], none),
  (137, .goto (-105), 3, 0, 0, 0, [32], none),
  (140, .iconst 1, 1, 0, 0, 0, [], none),
  (141, .ireturn, 1, 0, 0, 0, [], none)]
set_option maxRecDepth 100000 in
theorem kX9_areTwins : ab_def_ok mX9_areTwins rX9_areTwins := ⟨ab_mok_of 1721 110 1720 95 (by decide +kernel), [0, 0, 0, 0, 0, 0, 0, 0, 0, 1210, 0, 0, 0, 0, 0, 1210, 0, 0, 0, 0, 0, 0, 0, 0, 0, 0, 0, 0, 1464, 0, 0, 0, 0, 1464, 0, 0, 1227, 0, 0, 0, 0, 0, 1227, 0, 0, 0, 0, 0, 0, 1228, 0, 0, 0, 0, 0, 1228, 0, 0, 0, 0, 0, 0, 0, 0, 0, 0, 0, 1472, 0, 0, 0, 0, 1472, 0, 0, 0, 1472, 0, 0, 1472, 0, 0, 0, 0, 0, 0, 0, 0], by decide +kernel⟩
set_option maxRecDepth 100000 in
theorem vX9_areTwins_0 {x : ab_Cx} {d mc ms : Nat} {Post : Option ab_V → List ab_Ob → Prop} (hx : ab_At x mX9_areTwins d mc ms Post) (a1 a2 a3 : Int) (w0 : ab_Ob) (kc ks : Nat)
    (h : ((¬ a1 = a2 → ((-2147483648 ≤ a1 + a3 ∧ a1 + a3 ≤ 2147483647) ∧ (((a1 + a3) = (w0.1 8) → (((0 : Int) = 0 ∨ (0 : Int) = 1) ∧ Post (some (ab_I 0)) [w0])) ∧ (¬ (a1 + a3) = (w0.1 8) → ((-2147483648 ≤ a2 + a3 ∧ a2 + a3 ≤ 2147483647) ∧ ((¬ (a2 + a3) = (w0.1 8) → ab_J x 32 [some (ab_O 0), some (ab_I a1), some (ab_I a2), some (ab_I a3), some (ab_I 0)] [] [w0] kc ks) ∧ ((a2 + a3) = (w0.1 8) → (((0 : Int) = 0 ∨ (0 : Int) = 1) ∧ Post (some (ab_I 0)) [w0])))))))) ∧ (a1 = a2 → (((1 : Int) = 0 ∨ (1 : Int) = 1) ∧ Post (some (ab_I 1)) [w0])))) :
    ab_J x 0 [some (ab_O 0), some (ab_I a1), some (ab_I a2), some (ab_I a3), none] [] [w0] kc ks := ab_go hx kX9_areTwins.2 22 [(32, [true, true, true, true, true])] 0 h
set_option maxRecDepth 100000 in
theorem vX9_areTwins_32 {x : ab_Cx} {d mc ms : Nat} {Post : Option ab_V → List ab_Ob → Prop} (hx : ab_At x mX9_areTwins d mc ms Post) (l1 l2 l3 l4 : Int) (w0 : ab_Ob) (kc ks : Nat)
    (h : ((l3 ≤ l4 → (((1 : Int) = 0 ∨ (1 : Int) = 1) ∧ Post (some (ab_I 1)) [w0])) ∧ (¬ l3 ≤ l4 → ((-2147483648 ≤ l1 + l4 ∧ l1 + l4 ≤ 2147483647) ∧ (∃ r1 : Int, ab_Calls d 0 0 mX9_lasts [ab_O 0, ab_I (l1 + l4)] [w0] (some (ab_I r1)) [w0] ∧ ((-2147483648 ≤ l2 + l4 ∧ l2 + l4 ≤ 2147483647) ∧ (∃ r2 : Int, ab_Calls d 0 0 mX9_lasts [ab_O 0, ab_I (l2 + l4)] [w0] (some (ab_I r2)) [w0] ∧ ((¬ r1 = r2 → (((0 : Int) = 0 ∨ (0 : Int) = 1) ∧ Post (some (ab_I 0)) [w0])) ∧ (r1 = r2 → ((-2147483648 ≤ l1 + l4 ∧ l1 + l4 ≤ 2147483647) ∧ ((0 ≤ (l1 + l4) ∧ (l1 + l4) < (w0.2 25).1) ∧ ((-2147483648 ≤ l2 + l4 ∧ l2 + l4 ≤ 2147483647) ∧ ((0 ≤ (l2 + l4) ∧ (l2 + l4) < (w0.2 25).1) ∧ ((¬ ((w0.2 25).2 (l1 + l4)) = ((w0.2 25).2 (l2 + l4)) → (((0 : Int) = 0 ∨ (0 : Int) = 1) ∧ Post (some (ab_I 0)) [w0])) ∧ (((w0.2 25).2 (l1 + l4)) = ((w0.2 25).2 (l2 + l4)) → ((-2147483648 ≤ l1 + l4 ∧ l1 + l4 ≤ 2147483647) ∧ ((0 ≤ (l1 + l4) ∧ (l1 + l4) < (w0.2 26).1) ∧ ((-2147483648 ≤ l2 + l4 ∧ l2 + l4 ≤ 2147483647) ∧ ((0 ≤ (l2 + l4) ∧ (l2 + l4) < (w0.2 26).1) ∧ ((((w0.2 26).2 (l1 + l4)) = ((w0.2 26).2 (l2 + l4)) → ((-2147483648 ≤ l1 + l4 ∧ l1 + l4 ≤ 2147483647) ∧ (∃ r3 : Int, ab_Calls d 0 0 mX9_pitchOf [ab_O 0, ab_I (l1 + l4)] [w0] (some (ab_I r3)) [w0] ∧ ((-2147483648 ≤ l2 + l4 ∧ l2 + l4 ≤ 2147483647) ∧ (∃ r4 : Int, ab_Calls d 0 0 mX9_pitchOf [ab_O 0, ab_I (l2 + l4)] [w0] (some (ab_I r4)) [w0] ∧ ((-2147483648 ≤ r3 - r4 ∧ r3 - r4 ≤ 2147483647) ∧ (∃ r5 : Int, ab_Calls d 0 0 mX9_pitchOf [ab_O 0, ab_I l1] [w0] (some (ab_I r5)) [w0] ∧ (∃ r6 : Int, ab_Calls d 0 0 mX9_pitchOf [ab_O 0, ab_I l2] [w0] (some (ab_I r6)) [w0] ∧ ((-2147483648 ≤ r5 - r6 ∧ r5 - r6 ≤ 2147483647) ∧ (((r3 - r4) = (r5 - r6) → ((-2147483648 ≤ l4 + 1 ∧ l4 + 1 ≤ 2147483647) ∧ ab_J x 32 [some (ab_O 0), some (ab_I l1), some (ab_I l2), some (ab_I l3), some (ab_I (l4 + 1))] [] [w0] kc ks)) ∧ (¬ (r3 - r4) = (r5 - r6) → (((0 : Int) = 0 ∨ (0 : Int) = 1) ∧ Post (some (ab_I 0)) [w0])))))))))))) ∧ (¬ ((w0.2 26).2 (l1 + l4)) = ((w0.2 26).2 (l2 + l4)) → (((0 : Int) = 0 ∨ (0 : Int) = 1) ∧ Post (some (ab_I 0)) [w0])))))))))))))))))))))) :
    ab_J x 32 [some (ab_O 0), some (ab_I l1), some (ab_I l2), some (ab_I l3), some (ab_I l4)] [] [w0] kc ks := ab_go hx kX9_areTwins.2 66 [(32, [true, true, true, true, true])] 32 h
def mX9_areSpans : ab_M := ((yX9_areSpans, cX9_areSpans, 4, (some .boolean)), ([9], [(0, 0)], [false], false, false, 0), (false, 9, 3))
def rX9_areSpans : List ab_R := [(0, .aload_n 0, 1, 0, 0, 0, [], none),
  (1, .getfield 235, 3, 9, 14, 0, [], none),
  (4, .ifCond .eq 47, 3, 0, 0, 0, [51], none),
  (7, .iload_n 3, 1, 0, 0, 0, [], none),
  (8, .ifCond .le 43, 3, 0, 0, 0, [51], none),
  (11, .iload_n 1, 1, 0, 0, 0, [], none),
  (12, .ifCond .lt 39, 3, 0, 0, 0, [51], none),
  (15, .iload_n 2, 1, 0, 0, 0, [], none),
  (16, .ifCond .lt 35, 3, 0, 0, 0, [51], none),
  (19, .iload_n 3, 1, 0, 0, 0, [], none),
  (20, .aload_n 0, 1, 0, 0, 0, [], none),
  (21, .getfield 246, 3, 9, 8, 0, [], none),
  (24, .if_icmp .gt 27, 3, 0, 0, 0, [51], none),
  (27, .iload_n 1, 1, 0, 0, 0, [], none),
  (28, .aload_n 0, 1, 0, 0, 0, [], none),
  (29, .getfield 246, 3, 9, 8, 0, [], none),
  (32, .iload_n 3, 1, 0, 0, 0, [], none),
  (33, .isub, 1, 0, 0, 0, [], none),
  (34, .if_icmp .gt 17, 3, 0, 0, 0, [51], none),
  (37, .iload_n 2, 1, 0, 0, 0, [], none),
  (38, .aload_n 0, 1, 0, 0, 0, [], none),
  (39, .getfield 246, 3, 9, 8, 0, [], none),
  (42, .iload_n 3, 1, 0, 0, 0, [], none),
  (43, .isub, 1, 0, 0, 0, [], none),
  (44, .if_icmp .gt 7, 3, 0, 0, 0, [51], none),
  (47, .iconst 1, 1, 0, 0, 0, [], none),
  (48, .goto 4, 3, 0, 0, 0, [52], none),
  (51, .iconst 0, 1, 0, 0, 0, [], none),
  (52, .ireturn, 1, 0, 0, 0, [], none)]
set_option maxRecDepth 100000 in
theorem kX9_areSpans : ab_def_ok mX9_areSpans rX9_areSpans := ⟨ab_mok_of 1717 110 1716 94 (by decide +kernel), [0, 1216, 0, 0, 0, 0, 0, 0, 0, 0, 0, 1210, 0, 0, 0, 1210, 0, 0, 0, 0, 0, 1210, 0, 0, 0, 0, 0, 0, 0], by decide +kernel⟩
set_option maxRecDepth 100000 in
theorem vX9_areSpans_0 {x : ab_Cx} {d mc ms : Nat} {Post : Option ab_V → List ab_Ob → Prop} (hx : ab_At x mX9_areSpans d mc ms Post) (a1 a2 a3 : Int) (w0 : ab_Ob) (kc ks : Nat)
    (h : (((w0.1 14) = 0 → (((0 : Int) = 0 ∨ (0 : Int) = 1) ∧ Post (some (ab_I 0)) [w0])) ∧ (¬ (w0.1 14) = 0 → ((a3 ≤ 0 → (((0 : Int) = 0 ∨ (0 : Int) = 1) ∧ Post (some (ab_I 0)) [w0])) ∧ (¬ a3 ≤ 0 → ((a1 < 0 → (((0 : Int) = 0 ∨ (0 : Int) = 1) ∧ Post (some (ab_I 0)) [w0])) ∧ (¬ a1 < 0 → ((a2 < 0 → (((0 : Int) = 0 ∨ (0 : Int) = 1) ∧ Post (some (ab_I 0)) [w0])) ∧ (¬ a2 < 0 → (((w0.1 8) < a3 → (((0 : Int) = 0 ∨ (0 : Int) = 1) ∧ Post (some (ab_I 0)) [w0])) ∧ (¬ (w0.1 8) < a3 → ((-2147483648 ≤ (w0.1 8) - a3 ∧ (w0.1 8) - a3 ≤ 2147483647) ∧ ((((w0.1 8) - a3) < a1 → (((0 : Int) = 0 ∨ (0 : Int) = 1) ∧ Post (some (ab_I 0)) [w0])) ∧ (¬ ((w0.1 8) - a3) < a1 → ((-2147483648 ≤ (w0.1 8) - a3 ∧ (w0.1 8) - a3 ≤ 2147483647) ∧ ((((w0.1 8) - a3) < a2 → (((0 : Int) = 0 ∨ (0 : Int) = 1) ∧ Post (some (ab_I 0)) [w0])) ∧ (¬ ((w0.1 8) - a3) < a2 → (((1 : Int) = 0 ∨ (1 : Int) = 1) ∧ Post (some (ab_I 1)) [w0])))))))))))))))))) :
    ab_J x 0 [some (ab_O 0), some (ab_I a1), some (ab_I a2), some (ab_I a3)] [] [w0] kc ks := ab_go hx kX9_areSpans.2 32 [] 0 h
def mX9_twins : ab_M := ((yX9_twins, cX9_twins, 4, (some .int)), ([9], [(0, 0)], [true], false, false, 0), (false, 9, 3))
def rX9_twins : List ab_R := [(0, .aload_n 0, 1, 0, 0, 0, [], none),
  (1, .iconst 0, 1, 0, 0, 0, [], none),
  (2, .putfield 100, 3, 9, 0, 0, [], none),
  (5, .aload_n 0, 1, 0, 0, 0, [], none),
  (6, .iload_n 1, 1, 0, 0, 0, [], none),
  (7, .iload_n 2, 1, 0, 0, 0, [], none),
  (8, .iload_n 3, 1, 0, 0, 0, [], none),
  (9, .invokevirtual 378, 3, 0, 0, 0, [], some mX9_areSpans),
  (12, .ifCond .eq 25, 3, 0, 0, 0, [37], none),
  (15, .aload_n 0, 1, 0, 0, 0, [], none),
  (16, .aload_n 0, 1, 0, 0, 0, [], none),
  (17, .iload_n 1, 1, 0, 0, 0, [], none),
  (18, .iload_n 2, 1, 0, 0, 0, [], none),
  (19, .iload_n 3, 1, 0, 0, 0, [], none),
  (20, .invokevirtual 381, 3, 0, 0, 0, [], some mX9_areTwins),
  (23, .ifCond .eq 7, 3, 0, 0, 0, [30], none),
  (26, .iconst 1, 1, 0, 0, 0, [], none),
  (27, .goto 4, 3, 0, 0, 0, [31], none),
  (30, .iconst 0, 1, 0, 0, 0, [], none),
  (31, .invokevirtual 255, 3, 0, 0, 0, [], some mX9_good),
  (34, .goto 8, 3, 0, 0, 0, [42], none),
  (37, .aload_n 0, 1, 0, 0, 0, [], none),
  (38, .iconst 1, 1, 0, 0, 0, [], none),
  (39, .invokevirtual 229, 3, 0, 0, 0, [], some mX9_refused),
  (42, .ireturn, 1, 0, 0, 0, [], none)]
set_option maxRecDepth 100000 in
theorem kX9_twins : ab_def_ok mX9_twins rX9_twins := ⟨ab_mok_of 1713 110 1711 1712 (by decide +kernel), [0, 0, 1202, 0, 0, 0, 0, 1714, 0, 0, 0, 0, 0, 0, 1718, 0, 0, 0, 0, 1519, 0, 0, 0, 1371, 0], by decide +kernel⟩
set_option maxRecDepth 100000 in
theorem vX9_twins_0 {x : ab_Cx} {d mc ms : Nat} {Post : Option ab_V → List ab_Ob → Prop} (hx : ab_At x mX9_twins d mc ms Post) (a1 a2 a3 : Int) (w0 : ab_Ob) (kc ks : Nat)
    (h : (∃ r1 : Int, ab_Calls d 0 0 mX9_areSpans [ab_O 0, ab_I a1, ab_I a2, ab_I a3] [(ab_pf w0 0 0)] (some (ab_I r1)) [(ab_pf w0 0 0)] ∧ ((r1 = 0 → (∃ r2 : Int, ∃ v3 : ab_Ob, ab_Calls d 0 0 mX9_refused [ab_O 0, ab_I 1] [(ab_pf w0 0 0)] (some (ab_I r2)) [v3] ∧ Post (some (ab_I r2)) [v3])) ∧ (¬ r1 = 0 → (∃ r4 : Int, ab_Calls d 0 0 mX9_areTwins [ab_O 0, ab_I a1, ab_I a2, ab_I a3] [(ab_pf w0 0 0)] (some (ab_I r4)) [(ab_pf w0 0 0)] ∧ ((r4 = 0 → (∃ r5 : Int, ∃ v6 : ab_Ob, ab_Calls d 0 0 mX9_good [ab_O 0, ab_I 0] [(ab_pf w0 0 0)] (some (ab_I r5)) [v6] ∧ Post (some (ab_I r5)) [v6])) ∧ (¬ r4 = 0 → (∃ r7 : Int, ∃ v8 : ab_Ob, ab_Calls d 0 0 mX9_good [ab_O 0, ab_I 1] [(ab_pf w0 0 0)] (some (ab_I r7)) [v8] ∧ Post (some (ab_I r7)) [v8])))))))) :
    ab_J x 0 [some (ab_O 0), some (ab_I a1), some (ab_I a2), some (ab_I a3)] [] [w0] kc ks := ab_go hx kX9_twins.2 25 [] 0 h
def mX9_twin : ab_M := ((yX9_twin, cX9_twin, 5, (some .int)), ([9], [(0, 0)], [true], false, false, 0), (false, 9, 1))
def rX9_twin : List ab_R := [(0, .aload_n 0, 1, 0, 0, 0, [], none),
  (1, .iconst 0, 1, 0, 0, 0, [], none),
  (2, .putfield 100, 3, 9, 0, 0, [], none),
  (5, .aload_n 0, 1, 0, 0, 0, [], none),
  (6, .getfield 235, 3, 9, 14, 0, [], none),
  (9, .ifCond .eq 12, 3, 0, 0, 0, [21], none),
  (12, .iload_n 1, 1, 0, 0, 0, [], none),
  (13, .iconst 0, 1, 0, 0, 0, [], none),
  (14, .iconst 2, 1, 0, 0, 0, [], none),
  (15, .invokestatic 125, 3, 0, 0, 0, [], some mX9_in),
  (18, .ifCond .ne 9, 3, 0, 0, 0, [27], none),
  (21, .aload_n 0, 1, 0, 0, 0, [], none),
  (22, .iconst 1, 1, 0, 0, 0, [], none),
  (23, .invokevirtual 229, 3, 0, 0, 0, [], some mX9_refused),
  (26, .ireturn, 1, 0, 0, 0, [], none),
  (27, .aload_n 0, 1, 0, 0, 0, [], none),
  (28, .getfield 246, 3, 9, 8, 0, [], none),
  (31, .iconst 2, 1, 0, 0, 0, [], none),
  (32, .idiv, 1, 0, 0, 0, [], none),
  (33, .istore_n 2, 1, 0, 0, 0, [], none),
  (34, .iload_n 2, 1, 0, 0, 0, [], none),
  (35, .ifCond .le 86, 3, 0, 0, 0, [121], none),
  (38, .iconst 0, 1, 0, 0, 0, [], none),
  (39, .istore_n 3, 1, 0, 0, 0, [], none),
  (40, .iload_n 3, 1, 0, 0, 0, [], none),
  (41, .iconst 2, 1, 0, 0, 0, [], none),
  (42, .iload_n 2, 1, 0, 0, 0, [], none),
  (43, .imul, 1, 0, 0, 0, [], none),
  (44, .iadd, 1, 0, 0, 0, [], none),
  (45, .aload_n 0, 1, 0, 0, 0, [], none),
  (46, .getfield 246, 3, 9, 8, 0, [], none),
  (49, .if_icmp .gt 66, 3, 0, 0, 0, [115], none),
  (52, .iload_n 3, 1, 0, 0, 0, [], none),
  (53, .iload_n 2, 1, 0, 0, 0, [], none),
  (54, .iadd, 1, 0, 0, 0, [], none),
  (55, .istore 4, 2, 0, 0, 0, [], none),
  (57, .iload 4, 2, 0, 0, 0, [], none),
  (59, .iload_n 2, 1, 0, 0, 0, [], none),
  (60, .iadd, 1, 0, 0, 0, [], none),
  (61, .aload_n 0, 1, 0, 0, 0, [], none),
  (62, .getfield 246, 3, 9, 8, 0, [], none),
  (65, .if_icmp .gt 44, 3, 0, 0, 0, [109], none),
  (68, .aload_n 0, 1, 0, 0, 0, [], none),
  (69, .iload_n 3, 1, 0, 0, 0, [], none),
  (70, .iload 4, 2, 0, 0, 0, [], none),
  (72, .iload_n 2, 1, 0, 0, 0, [], none),
  (73, .invokevirtual 381, 3, 0, 0, 0, [], some mX9_areTwins),
  (76, .ifCond .eq 27, 3, 0, 0, 0, [103], none),
  (79, .aload_n 0, 1, 0, 0, 0, [], none),
  (80, .iload_n 1, 1, 0, 0, 0, [], none),
  (81, .ifCond .ne 7, 3, 0, 0, 0, [88], none),
  (84, .iload_n 2, 1, 0, 0, 0, [], none),
  (85, .goto 14, 3, 0, 0, 0, [99], none),
  (88, .iload_n 1, 1, 0, 0, 0, [], none),
  (89, .iconst 1, 1, 0, 0, 0, [], none),
  (90, .if_icmp .ne 7, 3, 0, 0, 0, [97], none),
  (93, .iload_n 3, 1, 0, 0, 0, [], none),
  (94, .goto 5, 3, 0, 0, 0, [99], none),
  (97, .iload 4, 2, 0, 0, 0, [], none),
  (99, .invokevirtual 255, 3, 0, 0, 0, [], some mX9_good),
  (102, .ireturn, 1, 0, 0, 0, [], none),
  (103, .iinc 4 1, 3, 0, 0, 0, [], none),
  (106, .goto (-49), 3, 0, 0, 0, [57], none),
  (109, .iinc 3 1, 3, 0, 0, 0, [], none),
  (112, .goto (-72), 3, 0, 0, 0, [40], none),
  (115, .iinc 2 (-1), 3, 0, 0, 0, [], none),
  (118, .goto (-84), 3, 0, 0, 0, [34], none),
  (121, .aload_n 0, 1, 0, 0, 0, [], none),
  (122, .iload_n 1, 1, 0, 0, 0, [], none),
  (123, .ifCond .ne 7, 3, 0, 0, 0, [130], none),
  (126, .iconst 0, 1, 0, 0, 0, [], none),
  (127, .goto 5, 3, 0, 0, 0, [132], none),
  (130, .bipush (-2), 2, 0, 0, 0, [], none),
  (132, .invokevirtual 255, 3, 0, 0, 0, [], some mX9_good),
  (135, .ireturn, 1, 0, 0, 0, [], none)]
set_option maxRecDepth 100000 in
theorem kX9_twin : ab_def_ok mX9_twin rX9_twin := ⟨ab_mok_of 1725 110 1723 1724 (by decide +kernel), [0, 0, 1202, 0, 1216, 0, 0, 0, 0, 1387, 0, 0, 0, 1371, 0, 0, 1210, 0, 0, 0, 0, 0, 0, 0, 0, 0, 0, 0, 0, 0, 1210, 0, 0, 0, 0, 0, 0, 0, 0, 0, 1210, 0, 0, 0, 0, 0, 1718, 0, 0, 0, 0, 0, 0, 0, 0, 0, 0, 0, 0, 1519, 0, 0, 0, 0, 0, 0, 0, 0, 0, 0, 0, 0, 0, 1519, 0], by decide +kernel⟩
set_option maxRecDepth 100000 in
theorem vX9_twin_0 {x : ab_Cx} {d mc ms : Nat} {Post : Option ab_V → List ab_Ob → Prop} (hx : ab_At x mX9_twin d mc ms Post) (a1 : Int) (w0 : ab_Ob) (kc ks : Nat)
    (h : (((w0.1 14) = 0 → (∃ r1 : Int, ∃ v2 : ab_Ob, ab_Calls d 0 0 mX9_refused [ab_O 0, ab_I 1] [(ab_pf w0 0 0)] (some (ab_I r1)) [v2] ∧ Post (some (ab_I r1)) [v2])) ∧ (¬ (w0.1 14) = 0 → (∃ r3 : Int, ab_Calls d 0 0 mX9_in [ab_I a1, ab_I 0, ab_I 2] [] (some (ab_I r3)) [] ∧ ((¬ r3 = 0 → ((¬ (2 : Int) = 0) ∧ ((-2147483648 ≤ (Int.tdiv (w0.1 8) 2) ∧ (Int.tdiv (w0.1 8) 2) ≤ 2147483647) ∧ ab_J x 34 [some (ab_O 0), some (ab_I a1), some (ab_I (Int.tdiv (w0.1 8) 2)), none, none] [] [(ab_pf w0 0 0)] kc ks))) ∧ (r3 = 0 → (∃ r4 : Int, ∃ v5 : ab_Ob, ab_Calls d 0 0 mX9_refused [ab_O 0, ab_I 1] [(ab_pf w0 0 0)] (some (ab_I r4)) [v5] ∧ Post (some (ab_I r4)) [v5]))))))) :
    ab_J x 0 [some (ab_O 0), some (ab_I a1), none, none, none] [] [w0] kc ks := ab_go hx kX9_twin.2 21 [(34, [true, true, true, false, false]), (40, [true, true, true, true, false]), (57, [true, true, true, true, true])] 0 h
set_option maxRecDepth 100000 in
theorem vX9_twin_34 {x : ab_Cx} {d mc ms : Nat} {Post : Option ab_V → List ab_Ob → Prop} (hx : ab_At x mX9_twin d mc ms Post) (l1 l2 : Int) (w0 : ab_Ob) (kc ks : Nat)
    (h : ((l2 ≤ 0 → ((¬ l1 = 0 → (∃ r1 : Int, ∃ v2 : ab_Ob, ab_Calls d 0 0 mX9_good [ab_O 0, ab_I (-2)] [w0] (some (ab_I r1)) [v2] ∧ Post (some (ab_I r1)) [v2])) ∧ (l1 = 0 → (∃ r3 : Int, ∃ v4 : ab_Ob, ab_Calls d 0 0 mX9_good [ab_O 0, ab_I 0] [w0] (some (ab_I r3)) [v4] ∧ Post (some (ab_I r3)) [v4])))) ∧ (¬ l2 ≤ 0 → ab_J x 40 [some (ab_O 0), some (ab_I l1), some (ab_I l2), some (ab_I 0), none] [] [w0] kc ks))) :
    ab_J x 34 [some (ab_O 0), some (ab_I l1), some (ab_I l2), none, none] [] [w0] kc ks := ab_go hx kX9_twin.2 13 [(34, [true, true, true, false, false]), (40, [true, true, true, true, false]), (57, [true, true, true, true, true])] 34 h
set_option maxRecDepth 100000 in
theorem vX9_twin_40 {x : ab_Cx} {d mc ms : Nat} {Post : Option ab_V → List ab_Ob → Prop} (hx : ab_At x mX9_twin d mc ms Post) (l1 l2 l3 : Int) (w0 : ab_Ob) (kc ks : Nat)
    (h : ((-2147483648 ≤ 2 * l2 ∧ 2 * l2 ≤ 2147483647) ∧ ((-2147483648 ≤ l3 + (2 * l2) ∧ l3 + (2 * l2) ≤ 2147483647) ∧ (((w0.1 8) < (l3 + (2 * l2)) → ((-2147483648 ≤ l2 + (-1) ∧ l2 + (-1) ≤ 2147483647) ∧ ab_J x 34 [some (ab_O 0), some (ab_I l1), some (ab_I (l2 + (-1))), none, none] [] [w0] kc ks)) ∧ (¬ (w0.1 8) < (l3 + (2 * l2)) → ((-2147483648 ≤ l3 + l2 ∧ l3 + l2 ≤ 2147483647) ∧ ab_J x 57 [some (ab_O 0), some (ab_I l1), some (ab_I l2), some (ab_I l3), some (ab_I (l3 + l2))] [] [w0] kc ks)))))) :
    ab_J x 40 [some (ab_O 0), some (ab_I l1), some (ab_I l2), some (ab_I l3), none] [] [w0] kc ks := ab_go hx kX9_twin.2 17 [(34, [true, true, true, false, false]), (40, [true, true, true, true, false]), (57, [true, true, true, true, true])] 40 h
set_option maxRecDepth 100000 in
theorem vX9_twin_57 {x : ab_Cx} {d mc ms : Nat} {Post : Option ab_V → List ab_Ob → Prop} (hx : ab_At x mX9_twin d mc ms Post) (l1 l2 l3 l4 : Int) (w0 : ab_Ob) (kc ks : Nat)
    (h : ((-2147483648 ≤ l4 + l2 ∧ l4 + l2 ≤ 2147483647) ∧ (((w0.1 8) < (l4 + l2) → ((-2147483648 ≤ l3 + 1 ∧ l3 + 1 ≤ 2147483647) ∧ ab_J x 40 [some (ab_O 0), some (ab_I l1), some (ab_I l2), some (ab_I (l3 + 1)), none] [] [w0] kc ks)) ∧ (¬ (w0.1 8) < (l4 + l2) → (∃ r1 : Int, ab_Calls d 0 0 mX9_areTwins [ab_O 0, ab_I l3, ab_I l4, ab_I l2] [w0] (some (ab_I r1)) [w0] ∧ ((r1 = 0 → ((-2147483648 ≤ l4 + 1 ∧ l4 + 1 ≤ 2147483647) ∧ ab_J x 57 [some (ab_O 0), some (ab_I l1), some (ab_I l2), some (ab_I l3), some (ab_I (l4 + 1))] [] [w0] kc ks)) ∧ (¬ r1 = 0 → ((¬ l1 = 0 → ((¬ l1 = 1 → (∃ r2 : Int, ∃ v3 : ab_Ob, ab_Calls d 0 0 mX9_good [ab_O 0, ab_I l4] [w0] (some (ab_I r2)) [v3] ∧ Post (some (ab_I r2)) [v3])) ∧ (l1 = 1 → (∃ r4 : Int, ∃ v5 : ab_Ob, ab_Calls d 0 0 mX9_good [ab_O 0, ab_I l3] [w0] (some (ab_I r4)) [v5] ∧ Post (some (ab_I r4)) [v5])))) ∧ (l1 = 0 → (∃ r6 : Int, ∃ v7 : ab_Ob, ab_Calls d 0 0 mX9_good [ab_O 0, ab_I l2] [w0] (some (ab_I r6)) [v7] ∧ Post (some (ab_I r6)) [v7])))))))))) :
    ab_J x 57 [some (ab_O 0), some (ab_I l1), some (ab_I l2), some (ab_I l3), some (ab_I l4)] [] [w0] kc ks := ab_go hx kX9_twin.2 26 [(34, [true, true, true, false, false]), (40, [true, true, true, true, false]), (57, [true, true, true, true, true])] 57 h
def mX9_areAlike : ab_M := ((yX9_areAlike, cX9_areAlike, 12, (some .boolean)), ([9], [(0, 0)], [true], false, false, 0), (false, 9, 3))
def rX9_areAlike : List ab_R := [(0, .aload_n 0, 1, 0, 0, 0, [], none),
  (1, .iconst 0, 1, 0, 0, 0, [], none),
  (2, .putfield 321, 3, 9, 41, 0, [], none),
  (5, .aload_n 0, 1, 0, 0, 0, [], none),
  (6, .iload_n 1, 1, 0, 0, 0, [], none),
  (7, .iload_n 1, 1, 0, 0, 0, [], none),
  (8, .iload_n 3, 1, 0, 0, 0, [], none),
  (9, .iadd, 1, 0, 0, 0, [], none),
  (10, .iconst 1, 1, 0, 0, 0, [], none),
  (11, .isub, 1, 0, 0, 0, [], none),
  (12, .aload_n 0, 1, 0, 0, 0, [], none),
  (13, .iload_n 1, 1, 0, 0, 0, [], none),
  (14, .iload_n 1, 1, 0, 0, 0, [], none),
  (15, .iload_n 3, 1, 0, 0, 0, [], none),
  (16, .iadd, 1, 0, 0, 0, [], none),
  (17, .iconst 1, 1, 0, 0, 0, [], none),
  (18, .isub, 1, 0, 0, 0, [], none),
  (19, .invokevirtual 318, 3, 0, 0, 0, [], some mX9_headOf),
  (22, .iload_n 2, 1, 0, 0, 0, [], none),
  (23, .invokevirtual 327, 3, 0, 0, 0, [], some mX9_goes),
  (26, .aload_n 0, 1, 0, 0, 0, [], none),
  (27, .iload_n 1, 1, 0, 0, 0, [], none),
  (28, .iload_n 1, 1, 0, 0, 0, [], none),
  (29, .iload_n 3, 1, 0, 0, 0, [], none),
  (30, .iadd, 1, 0, 0, 0, [], none),
  (31, .iconst 1, 1, 0, 0, 0, [], none),
  (32, .isub, 1, 0, 0, 0, [], none),
  (33, .invokevirtual 318, 3, 0, 0, 0, [], some mX9_headOf),
  (36, .iload_n 1, 1, 0, 0, 0, [], none),
  (37, .isub, 1, 0, 0, 0, [], none),
  (38, .aload_n 0, 1, 0, 0, 0, [], none),
  (39, .iload_n 2, 1, 0, 0, 0, [], none),
  (40, .iload_n 2, 1, 0, 0, 0, [], none),
  (41, .iload_n 3, 1, 0, 0, 0, [], none),
  (42, .iadd, 1, 0, 0, 0, [], none),
  (43, .iconst 1, 1, 0, 0, 0, [], none),
  (44, .isub, 1, 0, 0, 0, [], none),
  (45, .invokevirtual 318, 3, 0, 0, 0, [], some mX9_headOf),
  (48, .iload_n 2, 1, 0, 0, 0, [], none),
  (49, .isub, 1, 0, 0, 0, [], none),
  (50, .if_icmp .ne 7, 3, 0, 0, 0, [57], none),
  (53, .iconst 1, 1, 0, 0, 0, [], none),
  (54, .goto 4, 3, 0, 0, 0, [58], none),
  (57, .iconst 0, 1, 0, 0, 0, [], none),
  (58, .istore 4, 2, 0, 0, 0, [], none),
  (60, .iload 4, 2, 0, 0, 0, [], none),
  (62, .ifCond .eq 208, 3, 0, 0, 0, [270], none),
  (65, .aload_n 0, 1, 0, 0, 0, [], none),
  (66, .getfield 321, 3, 9, 41, 0, [], none),
  (69, .ifCond .le 201, 3, 0, 0, 0, [270], none),
  (72, .aload_n 0, 1, 0, 0, 0, [], none),
  (73, .dup, 1, 0, 0, 0, [], none),
  (74, .getfield 321, 3, 9, 41, 0, [], none),
  (77, .iconst 1, 1, 0, 0, 0, [], none),
  (78, .isub, 1, 0, 0, 0, [], none),
  (79, .putfield 321, 3, 9, 41, 0, [], none),
  (82, .aload_n 0, 1, 0, 0, 0, [], none),
  (83, .getfield 61, 3, 9, 36, 0, [], none),
  (86, .aload_n 0, 1, 0, 0, 0, [], none),
  (87, .getfield 321, 3, 9, 41, 0, [], none),
  (90, .iaload, 1, 0, 0, 0, [], none),
  (91, .istore 5, 2, 0, 0, 0, [], none),
  (93, .aload_n 0, 1, 0, 0, 0, [], none),
  (94, .getfield 64, 3, 9, 37, 0, [], none),
  (97, .aload_n 0, 1, 0, 0, 0, [], none),
  (98, .getfield 321, 3, 9, 41, 0, [], none),
  (101, .iaload, 1, 0, 0, 0, [], none),
  (102, .istore 6, 2, 0, 0, 0, [], none),
  (104, .aload_n 0, 1, 0, 0, 0, [], none),
  (105, .getfield 67, 3, 9, 38, 0, [], none),
  (108, .aload_n 0, 1, 0, 0, 0, [], none),
  (109, .getfield 321, 3, 9, 41, 0, [], none),
  (112, .iaload, 1, 0, 0, 0, [], none),
  (113, .istore 7, 2, 0, 0, 0, [], none),
  (115, .iload_n 2, 1, 0, 0, 0, [], none),
  (116, .iload_n 1, 1, 0, 0, 0, [], none),
  (117, .isub, 1, 0, 0, 0, [], none),
  (118, .istore 8, 2, 0, 0, 0, [], none),
  (120, .iload 5, 2, 0, 0, 0, [], none),
  (122, .iload 6, 2, 0, 0, 0, [], none),
  (124, .if_icmp .ne 6, 3, 0, 0, 0, [130], none),
  (127, .goto (-67), 3, 0, 0, 0, [60], none),
  (130, .aload_n 0, 1, 0, 0, 0, [], none),
  (131, .getfield 36, 3, 9, 28, 0, [], none),
  (134, .iload 5, 2, 0, 0, 0, [], none),
  (136, .iload 6, 2, 0, 0, 0, [], none),
  (138, .iload 7, 2, 0, 0, 0, [], none),
  (140, .invokestatic 289, 3, 0, 0, 0, [], some mX9_cube),
  (143, .iaload, 1, 0, 0, 0, [], none),
  (144, .istore 9, 2, 0, 0, 0, [], none),
  (146, .aload_n 0, 1, 0, 0, 0, [], none),
  (147, .getfield 39, 3, 9, 29, 0, [], none),
  (150, .iload 5, 2, 0, 0, 0, [], none),
  (152, .iload 6, 2, 0, 0, 0, [], none),
  (154, .iload 7, 2, 0, 0, 0, [], none),
  (156, .invokestatic 289, 3, 0, 0, 0, [], some mX9_cube),
  (159, .iaload, 1, 0, 0, 0, [], none),
  (160, .istore 10, 2, 0, 0, 0, [], none),
  (162, .iload 5, 2, 0, 0, 0, [], none),
  (164, .iload 8, 2, 0, 0, 0, [], none),
  (166, .iadd, 1, 0, 0, 0, [], none),
  (167, .iload 6, 2, 0, 0, 0, [], none),
  (169, .iload 8, 2, 0, 0, 0, [], none),
  (171, .iadd, 1, 0, 0, 0, [], none),
  (172, .iload 7, 2, 0, 0, 0, [], none),
  (174, .iload 8, 2, 0, 0, 0, [], none),
  (176, .iadd, 1, 0, 0, 0, [], none),
  (177, .invokestatic 289, 3, 0, 0, 0, [], some mX9_cube),
  (180, .istore 11, 2, 0, 0, 0, [], none),
  (182, .iload 9, 2, 0, 0, 0, [], none),
  (184, .iload 8, 2, 0, 0, 0, [], none),
  (186, .iadd, 1, 0, 0, 0, [], none),
  (187, .aload_n 0, 1, 0, 0, 0, [], none),
  (188, .getfield 36, 3, 9, 28, 0, [], none),
  (191, .iload 11, 2, 0, 0, 0, [], none),
  (193, .iaload, 1, 0, 0, 0, [], none),
  (194, .if_icmp .ne 22, 3, 0, 0, 0, [216], none),
  (197, .iload 10, 2, 0, 0, 0, [], none),
  (199, .iload 8, 2, 0, 0, 0, [], none),
  (201, .iadd, 1, 0, 0, 0, [], none),
  (202, .aload_n 0, 1, 0, 0, 0, [], none),
  (203, .getfield 39, 3, 9, 29, 0, [], none),
  (206, .iload 11, 2, 0, 0, 0, [], none),
  (208, .iaload, 1, 0, 0, 0, [], none),
  (209, .if_icmp .ne 7, 3, 0, 0, 0, [216], none),
  (212, .iconst 1, 1, 0, 0, 0, [], none),
  (213, .goto 4, 3, 0, 0, 0, [217], none),
  (216, .iconst 0, 1, 0, 0, 0, [], none),
  (217, .istore 4, 2, 0, 0, 0, [], none),
  (219, .aload_n 0, 1, 0, 0, 0, [], none),
  (220, .iload 5, 2, 0, 0, 0, [], none),
  (222, .iload 9, 2, 0, 0, 0, [], none),
  (224, .iload 7, 2, 0, 0, 0, [], none),
  (226, .iload 9, 2, 0, 0, 0, [], none),
  (228, .if_icmp .gt 8, 3, 0, 0, 0, [236], none),
  (231, .iload 7, 2, 0, 0, 0, [], none),
  (233, .goto 5, 3, 0, 0, 0, [238], none),
  (236, .iload 10, 2, 0, 0, 0, [], none),
  (238, .iload_n 2, 1, 0, 0, 0, [], none),
  (239, .invokevirtual 327, 3, 0, 0, 0, [], some mX9_goes),
  (242, .aload_n 0, 1, 0, 0, 0, [], none),
  (243, .iload 9, 2, 0, 0, 0, [], none),
  (245, .iconst 1, 1, 0, 0, 0, [], none),
  (246, .iadd, 1, 0, 0, 0, [], none),
  (247, .iload 6, 2, 0, 0, 0, [], none),
  (249, .iload 7, 2, 0, 0, 0, [], none),
  (251, .iload 9, 2, 0, 0, 0, [], none),
  (253, .if_icmp .gt 8, 3, 0, 0, 0, [261], none),
  (256, .iload 10, 2, 0, 0, 0, [], none),
  (258, .goto 5, 3, 0, 0, 0, [263], none),
  (261, .iload 7, 2, 0, 0, 0, [], none),
  (263, .iload_n 2, 1, 0, 0, 0, [], none),
  (264, .invokevirtual 327, 3, 0, 0, 0, [], some mX9_goes),
  (267, .goto (-207), 3, 0, 0, 0, [60], none),
  (270, .iload 4, 2, 0, 0, 0, [], none),
  (272, .ireturn, 1, 0, 0, 0, [], none)]
set_option maxRecDepth 100000 in
theorem kX9_areAlike : ab_def_ok mX9_areAlike rX9_areAlike := ⟨ab_mok_of 1733 110 1732 96 (by decide +kernel), [0, 0, 1243, 0, 0, 0, 0, 0, 0, 0, 0, 0, 0, 0, 0, 0, 0, 1511, 0, 1515, 0, 0, 0, 0, 0, 0, 0, 1511, 0, 0, 0, 0, 0, 0, 0, 0, 0, 1511, 0, 0, 0, 0, 0, 0, 0, 0, 0, 0, 1243, 0, 0, 0, 1243, 0, 0, 1243, 0, 1238, 0, 1243, 0, 0, 0, 1239, 0, 1243, 0, 0, 0, 1240, 0, 1243, 0, 0, 0, 0, 0, 0, 0, 0, 0, 0, 0, 1230, 0, 0, 0, 1480, 0, 0, 0, 1231, 0, 0, 0, 1480, 0, 0, 0, 0, 0, 0, 0, 0, 0, 0, 0, 1480, 0, 0, 0, 0, 0, 1230, 0, 0, 0, 0, 0, 0, 0, 1231, 0, 0, 0, 0, 0, 0, 0, 0, 0, 0, 0, 0, 0, 0, 0, 0, 0, 1515, 0, 0, 0, 0, 0, 0, 0, 0, 0, 0, 0, 0, 1515, 0, 0, 0], by decide +kernel⟩
set_option maxRecDepth 100000 in
theorem vX9_areAlike_0 {x : ab_Cx} {d mc ms : Nat} {Post : Option ab_V → List ab_Ob → Prop} (hx : ab_At x mX9_areAlike d mc ms Post) (a1 a2 a3 : Int) (w0 : ab_Ob) (kc ks : Nat)
    (h : ((-2147483648 ≤ a1 + a3 ∧ a1 + a3 ≤ 2147483647) ∧ ((-2147483648 ≤ (a1 + a3) - 1 ∧ (a1 + a3) - 1 ≤ 2147483647) ∧ ((-2147483648 ≤ a1 + a3 ∧ a1 + a3 ≤ 2147483647) ∧ ((-2147483648 ≤ (a1 + a3) - 1 ∧ (a1 + a3) - 1 ≤ 2147483647) ∧ (∃ r1 : Int, ab_Calls d 0 0 mX9_headOf [ab_O 0, ab_I a1, ab_I ((a1 + a3) - 1)] [(ab_pf w0 41 0)] (some (ab_I r1)) [(ab_pf w0 41 0)] ∧ (∃ v2 : ab_Ob, ab_Calls d 0 0 mX9_goes [ab_O 0, ab_I a1, ab_I ((a1 + a3) - 1), ab_I r1, ab_I a2] [(ab_pf w0 41 0)] none [v2] ∧ ((-2147483648 ≤ a1 + a3 ∧ a1 + a3 ≤ 2147483647) ∧ ((-2147483648 ≤ (a1 + a3) - 1 ∧ (a1 + a3) - 1 ≤ 2147483647) ∧ (∃ r3 : Int, ab_Calls d 0 0 mX9_headOf [ab_O 0, ab_I a1, ab_I ((a1 + a3) - 1)] [v2] (some (ab_I r3)) [v2] ∧ ((-2147483648 ≤ r3 - a1 ∧ r3 - a1 ≤ 2147483647) ∧ ((-2147483648 ≤ a2 + a3 ∧ a2 + a3 ≤ 2147483647) ∧ ((-2147483648 ≤ (a2 + a3) - 1 ∧ (a2 + a3) - 1 ≤ 2147483647) ∧ (∃ r4 : Int, ab_Calls d 0 0 mX9_headOf [ab_O 0, ab_I a2, ab_I ((a2 + a3) - 1)] [v2] (some (ab_I r4)) [v2] ∧ ((-2147483648 ≤ r4 - a2 ∧ r4 - a2 ≤ 2147483647) ∧ ((¬ (r3 - a1) = (r4 - a2) → ab_J x 60 [some (ab_O 0), some (ab_I a1), some (ab_I a2), none, some (ab_I 0), none, none, none, none, none, none, none] [] [v2] kc ks) ∧ ((r3 - a1) = (r4 - a2) → ab_J x 60 [some (ab_O 0), some (ab_I a1), some (ab_I a2), none, some (ab_I 1), none, none, none, none, none, none, none] [] [v2] kc ks))))))))))))))))) :
    ab_J x 0 [some (ab_O 0), some (ab_I a1), some (ab_I a2), some (ab_I a3), none, none, none, none, none, none, none, none] [] [w0] kc ks := ab_go hx kX9_areAlike.2 49 [(60, [true, true, true, false, true, false, false, false, false, false, false, false])] 0 h
set_option maxRecDepth 100000 in
theorem vX9_areAlike_60 {x : ab_Cx} {d mc ms : Nat} {Post : Option ab_V → List ab_Ob → Prop} (hx : ab_At x mX9_areAlike d mc ms Post) (l1 l2 l4 : Int) (w0 : ab_Ob) (kc ks : Nat)
    (h : ((l4 = 0 → ((l4 = 0 ∨ l4 = 1) ∧ Post (some (ab_I l4)) [w0])) ∧ (¬ l4 = 0 → (((w0.1 41) ≤ 0 → ((l4 = 0 ∨ l4 = 1) ∧ Post (some (ab_I l4)) [w0])) ∧ (¬ (w0.1 41) ≤ 0 → ((-2147483648 ≤ (w0.1 41) - 1 ∧ (w0.1 41) - 1 ≤ 2147483647) ∧ ((0 ≤ ((w0.1 41) - 1) ∧ ((w0.1 41) - 1) < (w0.2 36).1) ∧ ((0 ≤ ((w0.1 41) - 1) ∧ ((w0.1 41) - 1) < (w0.2 37).1) ∧ ((0 ≤ ((w0.1 41) - 1) ∧ ((w0.1 41) - 1) < (w0.2 38).1) ∧ ((-2147483648 ≤ l2 - l1 ∧ l2 - l1 ≤ 2147483647) ∧ ((¬ ((w0.2 36).2 ((w0.1 41) - 1)) = ((w0.2 37).2 ((w0.1 41) - 1)) → (∃ r1 : Int, ab_Calls d 0 0 mX9_cube [ab_I ((w0.2 36).2 ((w0.1 41) - 1)), ab_I ((w0.2 37).2 ((w0.1 41) - 1)), ab_I ((w0.2 38).2 ((w0.1 41) - 1))] [] (some (ab_I r1)) [] ∧ ((0 ≤ r1 ∧ r1 < (w0.2 28).1) ∧ (∃ r2 : Int, ab_Calls d 0 0 mX9_cube [ab_I ((w0.2 36).2 ((w0.1 41) - 1)), ab_I ((w0.2 37).2 ((w0.1 41) - 1)), ab_I ((w0.2 38).2 ((w0.1 41) - 1))] [] (some (ab_I r2)) [] ∧ ((0 ≤ r2 ∧ r2 < (w0.2 29).1) ∧ ((-2147483648 ≤ ((w0.2 36).2 ((w0.1 41) - 1)) + (l2 - l1) ∧ ((w0.2 36).2 ((w0.1 41) - 1)) + (l2 - l1) ≤ 2147483647) ∧ ((-2147483648 ≤ ((w0.2 37).2 ((w0.1 41) - 1)) + (l2 - l1) ∧ ((w0.2 37).2 ((w0.1 41) - 1)) + (l2 - l1) ≤ 2147483647) ∧ ((-2147483648 ≤ ((w0.2 38).2 ((w0.1 41) - 1)) + (l2 - l1) ∧ ((w0.2 38).2 ((w0.1 41) - 1)) + (l2 - l1) ≤ 2147483647) ∧ (∃ r3 : Int, ab_Calls d 0 0 mX9_cube [ab_I (((w0.2 36).2 ((w0.1 41) - 1)) + (l2 - l1)), ab_I (((w0.2 37).2 ((w0.1 41) - 1)) + (l2 - l1)), ab_I (((w0.2 38).2 ((w0.1 41) - 1)) + (l2 - l1))] [] (some (ab_I r3)) [] ∧ ((-2147483648 ≤ ((w0.2 28).2 r1) + (l2 - l1) ∧ ((w0.2 28).2 r1) + (l2 - l1) ≤ 2147483647) ∧ ((0 ≤ r3 ∧ r3 < (w0.2 28).1) ∧ ((¬ (((w0.2 28).2 r1) + (l2 - l1)) = ((w0.2 28).2 r3) → ((((w0.2 28).2 r1) < ((w0.2 38).2 ((w0.1 41) - 1)) → (∃ v4 : ab_Ob, ab_Calls d 0 0 mX9_goes [ab_O 0, ab_I ((w0.2 36).2 ((w0.1 41) - 1)), ab_I ((w0.2 28).2 r1), ab_I ((w0.2 29).2 r2), ab_I l2] [(ab_pf w0 41 ((w0.1 41) - 1))] none [v4] ∧ ((-2147483648 ≤ ((w0.2 28).2 r1) + 1 ∧ ((w0.2 28).2 r1) + 1 ≤ 2147483647) ∧ ((((w0.2 28).2 r1) < ((w0.2 38).2 ((w0.1 41) - 1)) → (∃ v5 : ab_Ob, ab_Calls d 0 0 mX9_goes [ab_O 0, ab_I (((w0.2 28).2 r1) + 1), ab_I ((w0.2 37).2 ((w0.1 41) - 1)), ab_I ((w0.2 38).2 ((w0.1 41) - 1)), ab_I l2] [v4] none [v5] ∧ ab_J x 60 [some (ab_O 0), some (ab_I l1), some (ab_I l2), none, some (ab_I 0), none, none, none, none, none, none, none] [] [v5] kc ks)) ∧ (¬ ((w0.2 28).2 r1) < ((w0.2 38).2 ((w0.1 41) - 1)) → (∃ v6 : ab_Ob, ab_Calls d 0 0 mX9_goes [ab_O 0, ab_I (((w0.2 28).2 r1) + 1), ab_I ((w0.2 37).2 ((w0.1 41) - 1)), ab_I ((w0.2 29).2 r2), ab_I l2] [v4] none [v6] ∧ ab_J x 60 [some (ab_O 0), some (ab_I l1), some (ab_I l2), none, some (ab_I 0), none, none, none, none, none, none, none] [] [v6] kc ks)))))) ∧ (¬ ((w0.2 28).2 r1) < ((w0.2 38).2 ((w0.1 41) - 1)) → (∃ v7 : ab_Ob, ab_Calls d 0 0 mX9_goes [ab_O 0, ab_I ((w0.2 36).2 ((w0.1 41) - 1)), ab_I ((w0.2 28).2 r1), ab_I ((w0.2 38).2 ((w0.1 41) - 1)), ab_I l2] [(ab_pf w0 41 ((w0.1 41) - 1))] none [v7] ∧ ((-2147483648 ≤ ((w0.2 28).2 r1) + 1 ∧ ((w0.2 28).2 r1) + 1 ≤ 2147483647) ∧ ((((w0.2 28).2 r1) < ((w0.2 38).2 ((w0.1 41) - 1)) → (∃ v8 : ab_Ob, ab_Calls d 0 0 mX9_goes [ab_O 0, ab_I (((w0.2 28).2 r1) + 1), ab_I ((w0.2 37).2 ((w0.1 41) - 1)), ab_I ((w0.2 38).2 ((w0.1 41) - 1)), ab_I l2] [v7] none [v8] ∧ ab_J x 60 [some (ab_O 0), some (ab_I l1), some (ab_I l2), none, some (ab_I 0), none, none, none, none, none, none, none] [] [v8] kc ks)) ∧ (¬ ((w0.2 28).2 r1) < ((w0.2 38).2 ((w0.1 41) - 1)) → (∃ v9 : ab_Ob, ab_Calls d 0 0 mX9_goes [ab_O 0, ab_I (((w0.2 28).2 r1) + 1), ab_I ((w0.2 37).2 ((w0.1 41) - 1)), ab_I ((w0.2 29).2 r2), ab_I l2] [v7] none [v9] ∧ ab_J x 60 [some (ab_O 0), some (ab_I l1), some (ab_I l2), none, some (ab_I 0), none, none, none, none, none, none, none] [] [v9] kc ks)))))))) ∧ ((((w0.2 28).2 r1) + (l2 - l1)) = ((w0.2 28).2 r3) → ((-2147483648 ≤ ((w0.2 29).2 r2) + (l2 - l1) ∧ ((w0.2 29).2 r2) + (l2 - l1) ≤ 2147483647) ∧ ((0 ≤ r3 ∧ r3 < (w0.2 29).1) ∧ ((¬ (((w0.2 29).2 r2) + (l2 - l1)) = ((w0.2 29).2 r3) → ((((w0.2 28).2 r1) < ((w0.2 38).2 ((w0.1 41) - 1)) → (∃ v10 : ab_Ob, ab_Calls d 0 0 mX9_goes [ab_O 0, ab_I ((w0.2 36).2 ((w0.1 41) - 1)), ab_I ((w0.2 28).2 r1), ab_I ((w0.2 29).2 r2), ab_I l2] [(ab_pf w0 41 ((w0.1 41) - 1))] none [v10] ∧ ((-2147483648 ≤ ((w0.2 28).2 r1) + 1 ∧ ((w0.2 28).2 r1) + 1 ≤ 2147483647) ∧ ((((w0.2 28).2 r1) < ((w0.2 38).2 ((w0.1 41) - 1)) → (∃ v11 : ab_Ob, ab_Calls d 0 0 mX9_goes [ab_O 0, ab_I (((w0.2 28).2 r1) + 1), ab_I ((w0.2 37).2 ((w0.1 41) - 1)), ab_I ((w0.2 38).2 ((w0.1 41) - 1)), ab_I l2] [v10] none [v11] ∧ ab_J x 60 [some (ab_O 0), some (ab_I l1), some (ab_I l2), none, some (ab_I 0), none, none, none, none, none, none, none] [] [v11] kc ks)) ∧ (¬ ((w0.2 28).2 r1) < ((w0.2 38).2 ((w0.1 41) - 1)) → (∃ v12 : ab_Ob, ab_Calls d 0 0 mX9_goes [ab_O 0, ab_I (((w0.2 28).2 r1) + 1), ab_I ((w0.2 37).2 ((w0.1 41) - 1)), ab_I ((w0.2 29).2 r2), ab_I l2] [v10] none [v12] ∧ ab_J x 60 [some (ab_O 0), some (ab_I l1), some (ab_I l2), none, some (ab_I 0), none, none, none, none, none, none, none] [] [v12] kc ks)))))) ∧ (¬ ((w0.2 28).2 r1) < ((w0.2 38).2 ((w0.1 41) - 1)) → (∃ v13 : ab_Ob, ab_Calls d 0 0 mX9_goes [ab_O 0, ab_I ((w0.2 36).2 ((w0.1 41) - 1)), ab_I ((w0.2 28).2 r1), ab_I ((w0.2 38).2 ((w0.1 41) - 1)), ab_I l2] [(ab_pf w0 41 ((w0.1 41) - 1))] none [v13] ∧ ((-2147483648 ≤ ((w0.2 28).2 r1) + 1 ∧ ((w0.2 28).2 r1) + 1 ≤ 2147483647) ∧ ((((w0.2 28).2 r1) < ((w0.2 38).2 ((w0.1 41) - 1)) → (∃ v14 : ab_Ob, ab_Calls d 0 0 mX9_goes [ab_O 0, ab_I (((w0.2 28).2 r1) + 1), ab_I ((w0.2 37).2 ((w0.1 41) - 1)), ab_I ((w0.2 38).2 ((w0.1 41) - 1)), ab_I l2] [v13] none [v14] ∧ ab_J x 60 [some (ab_O 0), some (ab_I l1), some (ab_I l2), none, some (ab_I 0), none, none, none, none, none, none, none] [] [v14] kc ks)) ∧ (¬ ((w0.2 28).2 r1) < ((w0.2 38).2 ((w0.1 41) - 1)) → (∃ v15 : ab_Ob, ab_Calls d 0 0 mX9_goes [ab_O 0, ab_I (((w0.2 28).2 r1) + 1), ab_I ((w0.2 37).2 ((w0.1 41) - 1)), ab_I ((w0.2 29).2 r2), ab_I l2] [v13] none [v15] ∧ ab_J x 60 [some (ab_O 0), some (ab_I l1), some (ab_I l2), none, some (ab_I 0), none, none, none, none, none, none, none] [] [v15] kc ks)))))))) ∧ ((((w0.2 29).2 r2) + (l2 - l1)) = ((w0.2 29).2 r3) → ((((w0.2 28).2 r1) < ((w0.2 38).2 ((w0.1 41) - 1)) → (∃ v16 : ab_Ob, ab_Calls d 0 0 mX9_goes [ab_O 0, ab_I ((w0.2 36).2 ((w0.1 41) - 1)), ab_I ((w0.2 28).2 r1), ab_I ((w0.2 29).2 r2), ab_I l2] [(ab_pf w0 41 ((w0.1 41) - 1))] none [v16] ∧ ((-2147483648 ≤ ((w0.2 28).2 r1) + 1 ∧ ((w0.2 28).2 r1) + 1 ≤ 2147483647) ∧ ((((w0.2 28).2 r1) < ((w0.2 38).2 ((w0.1 41) - 1)) → (∃ v17 : ab_Ob, ab_Calls d 0 0 mX9_goes [ab_O 0, ab_I (((w0.2 28).2 r1) + 1), ab_I ((w0.2 37).2 ((w0.1 41) - 1)), ab_I ((w0.2 38).2 ((w0.1 41) - 1)), ab_I l2] [v16] none [v17] ∧ ab_J x 60 [some (ab_O 0), some (ab_I l1), some (ab_I l2), none, some (ab_I 1), none, none, none, none, none, none, none] [] [v17] kc ks)) ∧ (¬ ((w0.2 28).2 r1) < ((w0.2 38).2 ((w0.1 41) - 1)) → (∃ v18 : ab_Ob, ab_Calls d 0 0 mX9_goes [ab_O 0, ab_I (((w0.2 28).2 r1) + 1), ab_I ((w0.2 37).2 ((w0.1 41) - 1)), ab_I ((w0.2 29).2 r2), ab_I l2] [v16] none [v18] ∧ ab_J x 60 [some (ab_O 0), some (ab_I l1), some (ab_I l2), none, some (ab_I 1), none, none, none, none, none, none, none] [] [v18] kc ks)))))) ∧ (¬ ((w0.2 28).2 r1) < ((w0.2 38).2 ((w0.1 41) - 1)) → (∃ v19 : ab_Ob, ab_Calls d 0 0 mX9_goes [ab_O 0, ab_I ((w0.2 36).2 ((w0.1 41) - 1)), ab_I ((w0.2 28).2 r1), ab_I ((w0.2 38).2 ((w0.1 41) - 1)), ab_I l2] [(ab_pf w0 41 ((w0.1 41) - 1))] none [v19] ∧ ((-2147483648 ≤ ((w0.2 28).2 r1) + 1 ∧ ((w0.2 28).2 r1) + 1 ≤ 2147483647) ∧ ((((w0.2 28).2 r1) < ((w0.2 38).2 ((w0.1 41) - 1)) → (∃ v20 : ab_Ob, ab_Calls d 0 0 mX9_goes [ab_O 0, ab_I (((w0.2 28).2 r1) + 1), ab_I ((w0.2 37).2 ((w0.1 41) - 1)), ab_I ((w0.2 38).2 ((w0.1 41) - 1)), ab_I l2] [v19] none [v20] ∧ ab_J x 60 [some (ab_O 0), some (ab_I l1), some (ab_I l2), none, some (ab_I 1), none, none, none, none, none, none, none] [] [v20] kc ks)) ∧ (¬ ((w0.2 28).2 r1) < ((w0.2 38).2 ((w0.1 41) - 1)) → (∃ v21 : ab_Ob, ab_Calls d 0 0 mX9_goes [ab_O 0, ab_I (((w0.2 28).2 r1) + 1), ab_I ((w0.2 37).2 ((w0.1 41) - 1)), ab_I ((w0.2 29).2 r2), ab_I l2] [v19] none [v21] ∧ ab_J x 60 [some (ab_O 0), some (ab_I l1), some (ab_I l2), none, some (ab_I 1), none, none, none, none, none, none, none] [] [v21] kc ks)))))))))))))))))))))))) ∧ (((w0.2 36).2 ((w0.1 41) - 1)) = ((w0.2 37).2 ((w0.1 41) - 1)) → ab_J x 60 [some (ab_O 0), some (ab_I l1), some (ab_I l2), none, some (ab_I l4), none, none, none, none, none, none, none] [] [(ab_pf w0 41 ((w0.1 41) - 1))] kc ks)))))))))))) :
    ab_J x 60 [some (ab_O 0), some (ab_I l1), some (ab_I l2), none, some (ab_I l4), none, none, none, none, none, none, none] [] [w0] kc ks := ab_go hx kX9_areAlike.2 110 [(60, [true, true, true, false, true, false, false, false, false, false, false, false])] 60 h
def mX9_alike : ab_M := ((yX9_alike, cX9_alike, 4, (some .int)), ([9], [(0, 0)], [true], false, false, 0), (false, 9, 3))
def rX9_alike : List ab_R := [(0, .aload_n 0, 1, 0, 0, 0, [], none),
  (1, .iconst 0, 1, 0, 0, 0, [], none),
  (2, .putfield 100, 3, 9, 0, 0, [], none),
  (5, .aload_n 0, 1, 0, 0, 0, [], none),
  (6, .iload_n 1, 1, 0, 0, 0, [], none),
  (7, .iload_n 2, 1, 0, 0, 0, [], none),
  (8, .iload_n 3, 1, 0, 0, 0, [], none),
  (9, .invokevirtual 378, 3, 0, 0, 0, [], some mX9_areSpans),
  (12, .ifCond .eq 25, 3, 0, 0, 0, [37], none),
  (15, .aload_n 0, 1, 0, 0, 0, [], none),
  (16, .aload_n 0, 1, 0, 0, 0, [], none),
  (17, .iload_n 1, 1, 0, 0, 0, [], none),
  (18, .iload_n 2, 1, 0, 0, 0, [], none),
  (19, .iload_n 3, 1, 0, 0, 0, [], none),
  (20, .invokevirtual 384, 3, 0, 0, 0, [], some mX9_areAlike),
  (23, .ifCond .eq 7, 3, 0, 0, 0, [30], none),
  (26, .iconst 1, 1, 0, 0, 0, [], none),
  (27, .goto 4, 3, 0, 0, 0, [31], none),
  (30, .iconst 0, 1, 0, 0, 0, [], none),
  (31, .invokevirtual 255, 3, 0, 0, 0, [], some mX9_good),
  (34, .goto 8, 3, 0, 0, 0, [42], none),
  (37, .aload_n 0, 1, 0, 0, 0, [], none),
  (38, .iconst 1, 1, 0, 0, 0, [], none),
  (39, .invokevirtual 229, 3, 0, 0, 0, [], some mX9_refused),
  (42, .ireturn, 1, 0, 0, 0, [], none)]
set_option maxRecDepth 100000 in
theorem kX9_alike : ab_def_ok mX9_alike rX9_alike := ⟨ab_mok_of 1729 110 1727 1728 (by decide +kernel), [0, 0, 1202, 0, 0, 0, 0, 1714, 0, 0, 0, 0, 0, 0, 1730, 0, 0, 0, 0, 1519, 0, 0, 0, 1371, 0], by decide +kernel⟩
set_option maxRecDepth 100000 in
theorem vX9_alike_0 {x : ab_Cx} {d mc ms : Nat} {Post : Option ab_V → List ab_Ob → Prop} (hx : ab_At x mX9_alike d mc ms Post) (a1 a2 a3 : Int) (w0 : ab_Ob) (kc ks : Nat)
    (h : (∃ r1 : Int, ab_Calls d 0 0 mX9_areSpans [ab_O 0, ab_I a1, ab_I a2, ab_I a3] [(ab_pf w0 0 0)] (some (ab_I r1)) [(ab_pf w0 0 0)] ∧ ((r1 = 0 → (∃ r2 : Int, ∃ v3 : ab_Ob, ab_Calls d 0 0 mX9_refused [ab_O 0, ab_I 1] [(ab_pf w0 0 0)] (some (ab_I r2)) [v3] ∧ Post (some (ab_I r2)) [v3])) ∧ (¬ r1 = 0 → (∃ r4 : Int, ∃ v5 : ab_Ob, ab_Calls d 0 0 mX9_areAlike [ab_O 0, ab_I a1, ab_I a2, ab_I a3] [(ab_pf w0 0 0)] (some (ab_I r4)) [v5] ∧ ((r4 = 0 → (∃ r6 : Int, ∃ v7 : ab_Ob, ab_Calls d 0 0 mX9_good [ab_O 0, ab_I 0] [v5] (some (ab_I r6)) [v7] ∧ Post (some (ab_I r6)) [v7])) ∧ (¬ r4 = 0 → (∃ r8 : Int, ∃ v9 : ab_Ob, ab_Calls d 0 0 mX9_good [ab_O 0, ab_I 1] [v5] (some (ab_I r8)) [v9] ∧ Post (some (ab_I r8)) [v9])))))))) :
    ab_J x 0 [some (ab_O 0), some (ab_I a1), some (ab_I a2), some (ab_I a3)] [] [w0] kc ks := ab_go hx kX9_alike.2 25 [] 0 h
def mX9_keep : ab_M := ((yX9_keep, cX9_keep, 2, (some .int)), ([9], [(0, 0)], [true], false, false, 0), (false, 9, 0))
def rX9_keep : List ab_R := [(0, .aload_n 0, 1, 0, 0, 0, [], none),
  (1, .iconst 0, 1, 0, 0, 0, [], none),
  (2, .putfield 100, 3, 9, 0, 0, [], none),
  (5, .aload_n 0, 1, 0, 0, 0, [], none),
  (6, .getfield 235, 3, 9, 14, 0, [], none),
  (9, .ifCond .ne 9, 3, 0, 0, 0, [18], none),
  (12, .aload_n 0, 1, 0, 0, 0, [], none),
  (13, .iconst 1, 1, 0, 0, 0, [], none),
  (14, .invokevirtual 229, 3, 0, 0, 0, [], some mX9_refused),
  (17, .ireturn, 1, 0, 0, 0, [], none),
  (18, .aload_n 0, 1, 0, 0, 0, [], none),
  (19, .iconst 1, 1, 0, 0, 0, [], none),
  (20, .putfield 239, 3, 9, 15, 0, [], none),
  (23, .aload_n 0, 1, 0, 0, 0, [], none),
  (24, .iconst 0, 1, 0, 0, 0, [], none),
  (25, .putfield 387, 3, 9, 51, 0, [], none),
  (28, .iconst 0, 1, 0, 0, 0, [], none),
  (29, .istore_n 1, 1, 0, 0, 0, [], none),
  (30, .iload_n 1, 1, 0, 0, 0, [], none),
  (31, .bipush 24, 2, 0, 0, 0, [], none),
  (33, .if_icmp .ge 21, 3, 0, 0, 0, [54], none),
  (36, .aload_n 0, 1, 0, 0, 0, [], none),
  (37, .getfield 97, 3, 9, 50, 0, [], none),
  (40, .iload_n 1, 1, 0, 0, 0, [], none),
  (41, .aload_n 0, 1, 0, 0, 0, [], none),
  (42, .getfield 58, 3, 9, 35, 0, [], none),
  (45, .iload_n 1, 1, 0, 0, 0, [], none),
  (46, .iaload, 1, 0, 0, 0, [], none),
  (47, .iastore, 1, 0, 0, 0, [], none),
  (48, .iinc 1 1, 3, 0, 0, 0, [], none),
  (51, .goto (-21), 3, 0, 0, 0, [30], none),
  (54, .iconst 0, 1, 0, 0, 0, [], none),
  (55, .istore_n 1, 1, 0, 0, 0, [], none),
  (56, .iload_n 1, 1, 0, 0, 0, [], none),
  (57, .aload_n 0, 1, 0, 0, 0, [], none),
  (58, .getfield 324, 3, 9, 40, 0, [], none),
  (61, .if_icmp .ge 103, 3, 0, 0, 0, [164], none),
  (64, .aload_n 0, 1, 0, 0, 0, [], none),
  (65, .iload_n 1, 1, 0, 0, 0, [], none),
  (66, .invokevirtual 331, 3, 0, 0, 0, [], some mX9_isJoining),
  (69, .ifCond .ne 6, 3, 0, 0, 0, [75], none),
  (72, .goto 86, 3, 0, 0, 0, [158], none),
  (75, .aload_n 0, 1, 0, 0, 0, [], none),
  (76, .getfield 82, 3, 9, 45, 0, [], none),
  (79, .aload_n 0, 1, 0, 0, 0, [], none),
  (80, .getfield 387, 3, 9, 51, 0, [], none),
  (83, .aload_n 0, 1, 0, 0, 0, [], none),
  (84, .getfield 46, 3, 9, 31, 0, [], none),
  (87, .iload_n 1, 1, 0, 0, 0, [], none),
  (88, .iaload, 1, 0, 0, 0, [], none),
  (89, .iastore, 1, 0, 0, 0, [], none),
  (90, .aload_n 0, 1, 0, 0, 0, [], none),
  (91, .getfield 85, 3, 9, 46, 0, [], none),
  (94, .aload_n 0, 1, 0, 0, 0, [], none),
  (95, .getfield 387, 3, 9, 51, 0, [], none),
  (98, .aload_n 0, 1, 0, 0, 0, [], none),
  (99, .getfield 49, 3, 9, 32, 0, [], none),
  (102, .iload_n 1, 1, 0, 0, 0, [], none),
  (103, .iaload, 1, 0, 0, 0, [], none),
  (104, .iastore, 1, 0, 0, 0, [], none),
  (105, .aload_n 0, 1, 0, 0, 0, [], none),
  (106, .getfield 88, 3, 9, 47, 0, [], none),
  (109, .aload_n 0, 1, 0, 0, 0, [], none),
  (110, .getfield 387, 3, 9, 51, 0, [], none),
  (113, .aload_n 0, 1, 0, 0, 0, [], none),
  (114, .iload_n 1, 1, 0, 0, 0, [], none),
  (115, .invokevirtual 334, 3, 0, 0, 0, [], some mX9_splitAt),
  (118, .iastore, 1, 0, 0, 0, [], none),
  (119, .aload_n 0, 1, 0, 0, 0, [], none),
  (120, .getfield 91, 3, 9, 48, 0, [], none),
  (123, .aload_n 0, 1, 0, 0, 0, [], none),
  (124, .getfield 387, 3, 9, 51, 0, [], none),
  (127, .aload_n 0, 1, 0, 0, 0, [], none),
  (128, .getfield 52, 3, 9, 33, 0, [], none),
  (131, .iload_n 1, 1, 0, 0, 0, [], none),
  (132, .iaload, 1, 0, 0, 0, [], none),
  (133, .iastore, 1, 0, 0, 0, [], none),
  (134, .aload_n 0, 1, 0, 0, 0, [], none),
  (135, .getfield 94, 3, 9, 49, 0, [], none),
  (138, .aload_n 0, 1, 0, 0, 0, [], none),
  (139, .getfield 387, 3, 9, 51, 0, [], none),
  (142, .aload_n 0, 1, 0, 0, 0, [], none),
  (143, .iload_n 1, 1, 0, 0, 0, [], none),
  (144, .invokevirtual 337, 3, 0, 0, 0, [], some mX9_underAt),
  (147, .iastore, 1, 0, 0, 0, [], none),
  (148, .aload_n 0, 1, 0, 0, 0, [], none),
  (149, .dup, 1, 0, 0, 0, [], none),
  (150, .getfield 387, 3, 9, 51, 0, [], none),
  (153, .iconst 1, 1, 0, 0, 0, [], none),
  (154, .iadd, 1, 0, 0, 0, [], none),
  (155, .putfield 387, 3, 9, 51, 0, [], none),
  (158, .iinc 1 1, 3, 0, 0, 0, [], none),
  (161, .goto (-105), 3, 0, 0, 0, [56], none),
  (164, .aload_n 0, 1, 0, 0, 0, [], none),
  (165, .aload_n 0, 1, 0, 0, 0, [], none),
  (166, .getfield 33, 3, 9, 27, 0, [], none),
  (169, .iconst 0, 1, 0, 0, 0, [], none),
  (170, .aload_n 0, 1, 0, 0, 0, [], none),
  (171, .getfield 246, 3, 9, 8, 0, [], none),
  (174, .iconst 1, 1, 0, 0, 0, [], none),
  (175, .isub, 1, 0, 0, 0, [], none),
  (176, .aload_n 0, 1, 0, 0, 0, [], none),
  (177, .iconst 0, 1, 0, 0, 0, [], none),
  (178, .aload_n 0, 1, 0, 0, 0, [], none),
  (179, .getfield 246, 3, 9, 8, 0, [], none),
  (182, .iconst 1, 1, 0, 0, 0, [], none),
  (183, .isub, 1, 0, 0, 0, [], none),
  (184, .invokevirtual 318, 3, 0, 0, 0, [], some mX9_headOf),
  (187, .invokestatic 289, 3, 0, 0, 0, [], some mX9_cube),
  (190, .iaload, 1, 0, 0, 0, [], none),
  (191, .invokevirtual 255, 3, 0, 0, 0, [], some mX9_good),
  (194, .ireturn, 1, 0, 0, 0, [], none)]
set_option maxRecDepth 100000 in
theorem kX9_keep : ab_def_ok mX9_keep rX9_keep := ⟨ab_mok_of 1737 110 1735 1736 (by decide +kernel), [0, 0, 1202, 0, 1216, 0, 0, 0, 1371, 0, 0, 0, 1217, 0, 0, 1253, 0, 0, 0, 0, 0, 0, 1252, 0, 0, 1237, 0, 0, 0, 0, 0, 0, 0, 0, 0, 1242, 0, 0, 0, 1594, 0, 0, 0, 1247, 0, 1253, 0, 1233, 0, 0, 0, 0, 1248, 0, 1253, 0, 1234, 0, 0, 0, 0, 1249, 0, 1253, 0, 0, 1602, 0, 0, 1250, 0, 1253, 0, 1235, 0, 0, 0, 0, 1251, 0, 1253, 0, 0, 1606, 0, 0, 0, 1253, 0, 0, 1253, 0, 0, 0, 0, 1229, 0, 0, 1210, 0, 0, 0, 0, 0, 1210, 0, 0, 1511, 1480, 0, 1519, 0], by decide +kernel⟩
set_option maxRecDepth 100000 in
theorem vX9_keep_0 {x : ab_Cx} {d mc ms : Nat} {Post : Option ab_V → List ab_Ob → Prop} (hx : ab_At x mX9_keep d mc ms Post) (w0 : ab_Ob) (kc ks : Nat)
    (h : ((¬ (w0.1 14) = 0 → (((1 : Int) = 0 ∨ (1 : Int) = 1) ∧ ab_J x 30 [some (ab_O 0), some (ab_I 0)] [] [(ab_pf (ab_pf (ab_pf w0 0 0) 15 1) 51 0)] kc ks)) ∧ ((w0.1 14) = 0 → (∃ r1 : Int, ∃ v2 : ab_Ob, ab_Calls d 0 0 mX9_refused [ab_O 0, ab_I 1] [(ab_pf w0 0 0)] (some (ab_I r1)) [v2] ∧ Post (some (ab_I r1)) [v2])))) :
    ab_J x 0 [some (ab_O 0), none] [] [w0] kc ks := ab_go hx kX9_keep.2 19 [(30, [true, true]), (56, [true, true])] 0 h
set_option maxRecDepth 100000 in
theorem vX9_keep_30 {x : ab_Cx} {d mc ms : Nat} {Post : Option ab_V → List ab_Ob → Prop} (hx : ab_At x mX9_keep d mc ms Post) (l1 : Int) (w0 : ab_Ob) (kc ks : Nat)
    (h : ((24 ≤ l1 → ab_J x 56 [some (ab_O 0), some (ab_I 0)] [] [w0] kc ks) ∧ (¬ 24 ≤ l1 → ((0 ≤ l1 ∧ l1 < (w0.2 35).1) ∧ ((0 ≤ l1 ∧ l1 < (w0.2 50).1) ∧ ((-2147483648 ≤ l1 + 1 ∧ l1 + 1 ≤ 2147483647) ∧ ab_J x 30 [some (ab_O 0), some (ab_I (l1 + 1))] [] [(ab_pa w0 50 l1 ((w0.2 35).2 l1))] kc ks)))))) :
    ab_J x 30 [some (ab_O 0), some (ab_I l1)] [] [w0] kc ks := ab_go hx kX9_keep.2 18 [(30, [true, true]), (56, [true, true])] 30 h
set_option maxRecDepth 100000 in
theorem vX9_keep_56 {x : ab_Cx} {d mc ms : Nat} {Post : Option ab_V → List ab_Ob → Prop} (hx : ab_At x mX9_keep d mc ms Post) (l1 : Int) (w0 : ab_Ob) (kc ks : Nat)
    (h : (((w0.1 40) ≤ l1 → ((-2147483648 ≤ (w0.1 8) - 1 ∧ (w0.1 8) - 1 ≤ 2147483647) ∧ ((-2147483648 ≤ (w0.1 8) - 1 ∧ (w0.1 8) - 1 ≤ 2147483647) ∧ (∃ r1 : Int, ab_Calls d 0 0 mX9_headOf [ab_O 0, ab_I 0, ab_I ((w0.1 8) - 1)] [w0] (some (ab_I r1)) [w0] ∧ (∃ r2 : Int, ab_Calls d 0 0 mX9_cube [ab_I 0, ab_I ((w0.1 8) - 1), ab_I r1] [] (some (ab_I r2)) [] ∧ ((0 ≤ r2 ∧ r2 < (w0.2 27).1) ∧ (∃ r3 : Int, ∃ v4 : ab_Ob, ab_Calls d 0 0 mX9_good [ab_O 0, ab_I ((w0.2 27).2 r2)] [w0] (some (ab_I r3)) [v4] ∧ Post (some (ab_I r3)) [v4]))))))) ∧ (¬ (w0.1 40) ≤ l1 → (∃ r5 : Int, ab_Calls d 0 0 mX9_isJoining [ab_O 0, ab_I l1] [w0] (some (ab_I r5)) [w0] ∧ ((¬ r5 = 0 → ((0 ≤ l1 ∧ l1 < (w0.2 31).1) ∧ ((0 ≤ (w0.1 51) ∧ (w0.1 51) < (w0.2 45).1) ∧ ((0 ≤ l1 ∧ l1 < (w0.2 32).1) ∧ ((0 ≤ (w0.1 51) ∧ (w0.1 51) < (w0.2 46).1) ∧ (∃ r6 : Int, ab_Calls d 0 0 mX9_splitAt [ab_O 0, ab_I l1] [(ab_pa (ab_pa w0 45 (w0.1 51) ((w0.2 31).2 l1)) 46 (w0.1 51) ((w0.2 32).2 l1))] (some (ab_I r6)) [(ab_pa (ab_pa w0 45 (w0.1 51) ((w0.2 31).2 l1)) 46 (w0.1 51) ((w0.2 32).2 l1))] ∧ ((0 ≤ (w0.1 51) ∧ (w0.1 51) < (w0.2 47).1) ∧ ((0 ≤ l1 ∧ l1 < (w0.2 33).1) ∧ ((0 ≤ (w0.1 51) ∧ (w0.1 51) < (w0.2 48).1) ∧ (∃ r7 : Int, ab_Calls d 0 0 mX9_underAt [ab_O 0, ab_I l1] [(ab_pa (ab_pa (ab_pa (ab_pa w0 45 (w0.1 51) ((w0.2 31).2 l1)) 46 (w0.1 51) ((w0.2 32).2 l1)) 47 (w0.1 51) r6) 48 (w0.1 51) ((w0.2 33).2 l1))] (some (ab_I r7)) [(ab_pa (ab_pa (ab_pa (ab_pa w0 45 (w0.1 51) ((w0.2 31).2 l1)) 46 (w0.1 51) ((w0.2 32).2 l1)) 47 (w0.1 51) r6) 48 (w0.1 51) ((w0.2 33).2 l1))] ∧ ((0 ≤ (w0.1 51) ∧ (w0.1 51) < (w0.2 49).1) ∧ ((-2147483648 ≤ (w0.1 51) + 1 ∧ (w0.1 51) + 1 ≤ 2147483647) ∧ ((-2147483648 ≤ l1 + 1 ∧ l1 + 1 ≤ 2147483647) ∧ ab_J x 56 [some (ab_O 0), some (ab_I (l1 + 1))] [] [(ab_pf (ab_pa (ab_pa (ab_pa (ab_pa (ab_pa w0 45 (w0.1 51) ((w0.2 31).2 l1)) 46 (w0.1 51) ((w0.2 32).2 l1)) 47 (w0.1 51) r6) 48 (w0.1 51) ((w0.2 33).2 l1)) 49 (w0.1 51) r7) 51 ((w0.1 51) + 1))] kc ks))))))))))))) ∧ (r5 = 0 → ((-2147483648 ≤ l1 + 1 ∧ l1 + 1 ≤ 2147483647) ∧ ab_J x 56 [some (ab_O 0), some (ab_I (l1 + 1))] [] [w0] kc ks))))))) :
    ab_J x 56 [some (ab_O 0), some (ab_I l1)] [] [w0] kc ks := ab_go hx kX9_keep.2 64 [(30, [true, true]), (56, [true, true])] 56 h
def mX9_keptAt : ab_M := ((yX9_keptAt, cX9_keptAt, 4, (some .int)), ([9], [(0, 0)], [false], false, false, 0), (false, 9, 2))
def rX9_keptAt : List ab_R := [(0, .iconst 0, 1, 0, 0, 0, [], none),
  (1, .istore_n 3, 1, 0, 0, 0, [], none),
  (2, .iload_n 3, 1, 0, 0, 0, [], none),
  (3, .aload_n 0, 1, 0, 0, 0, [], none),
  (4, .getfield 387, 3, 9, 51, 0, [], none),
  (7, .if_icmp .ge 31, 3, 0, 0, 0, [38], none),
  (10, .aload_n 0, 1, 0, 0, 0, [], none),
  (11, .getfield 82, 3, 9, 45, 0, [], none),
  (14, .iload_n 3, 1, 0, 0, 0, [], none),
  (15, .iaload, 1, 0, 0, 0, [], none),
  (16, .iload_n 1, 1, 0, 0, 0, [], none),
  (17, .if_icmp .ne 15, 3, 0, 0, 0, [32], none),
  (20, .aload_n 0, 1, 0, 0, 0, [], none),
  (21, .getfield 85, 3, 9, 46, 0, [], none),
  (24, .iload_n 3, 1, 0, 0, 0, [], none),
  (25, .iaload, 1, 0, 0, 0, [], none),
  (26, .iload_n 2, 1, 0, 0, 0, [], none),
  (27, .if_icmp .ne 5, 3, 0, 0, 0, [32], none),
  (30, .iload_n 3, 1, 0, 0, 0, [], none),
  (31, .ireturn, 1, 0, 0, 0, [], none),
  (32, .iinc 3 1, 3, 0, 0, 0, [], none),
  (35, .goto (-33), 3, 0, 0, 0, [2], none),
  (38, .iconst (-1), 1, 0, 0, 0, [], none),
  (39, .ireturn, 1, 0, 0, 0, [], none)]
set_option maxRecDepth 100000 in
theorem kX9_keptAt : ab_def_ok mX9_keptAt rX9_keptAt := ⟨ab_mok_of 1745 110 1744 97 (by decide +kernel), [0, 0, 0, 0, 1253, 0, 0, 1247, 0, 0, 0, 0, 0, 1248, 0, 0, 0, 0, 0, 0, 0, 0, 0, 0], by decide +kernel⟩
set_option maxRecDepth 100000 in
theorem vX9_keptAt_0 {x : ab_Cx} {d mc ms : Nat} {Post : Option ab_V → List ab_Ob → Prop} (hx : ab_At x mX9_keptAt d mc ms Post) (a1 a2 : Int) (w0 : ab_Ob) (kc ks : Nat)
    (h : ab_J x 2 [some (ab_O 0), some (ab_I a1), some (ab_I a2), some (ab_I 0)] [] [w0] kc ks) :
    ab_J x 0 [some (ab_O 0), some (ab_I a1), some (ab_I a2), none] [] [w0] kc ks := ab_go hx kX9_keptAt.2 7 [(2, [true, true, true, true])] 0 h
set_option maxRecDepth 100000 in
theorem vX9_keptAt_2 {x : ab_Cx} {d mc ms : Nat} {Post : Option ab_V → List ab_Ob → Prop} (hx : ab_At x mX9_keptAt d mc ms Post) (l1 l2 l3 : Int) (w0 : ab_Ob) (kc ks : Nat)
    (h : (((w0.1 51) ≤ l3 → Post (some (ab_I (-1))) [w0]) ∧ (¬ (w0.1 51) ≤ l3 → ((0 ≤ l3 ∧ l3 < (w0.2 45).1) ∧ ((¬ ((w0.2 45).2 l3) = l1 → ((-2147483648 ≤ l3 + 1 ∧ l3 + 1 ≤ 2147483647) ∧ ab_J x 2 [some (ab_O 0), some (ab_I l1), some (ab_I l2), some (ab_I (l3 + 1))] [] [w0] kc ks)) ∧ (((w0.2 45).2 l3) = l1 → ((0 ≤ l3 ∧ l3 < (w0.2 46).1) ∧ ((¬ ((w0.2 46).2 l3) = l2 → ((-2147483648 ≤ l3 + 1 ∧ l3 + 1 ≤ 2147483647) ∧ ab_J x 2 [some (ab_O 0), some (ab_I l1), some (ab_I l2), some (ab_I (l3 + 1))] [] [w0] kc ks)) ∧ (((w0.2 46).2 l3) = l2 → Post (some (ab_I l3)) [w0]))))))))) :
    ab_J x 2 [some (ab_O 0), some (ab_I l1), some (ab_I l2), some (ab_I l3)] [] [w0] kc ks := ab_go hx kX9_keptAt.2 23 [(2, [true, true, true, true])] 2 h
def mX9_unlike : ab_M := ((yX9_unlike, cX9_unlike, 5, (some .int)), ([9], [(0, 0)], [true], false, false, 0), (false, 9, 1))
def rX9_unlike : List ab_R := [(0, .aload_n 0, 1, 0, 0, 0, [], none),
  (1, .iconst 0, 1, 0, 0, 0, [], none),
  (2, .putfield 100, 3, 9, 0, 0, [], none),
  (5, .aload_n 0, 1, 0, 0, 0, [], none),
  (6, .getfield 235, 3, 9, 14, 0, [], none),
  (9, .ifCond .eq 19, 3, 0, 0, 0, [28], none),
  (12, .aload_n 0, 1, 0, 0, 0, [], none),
  (13, .getfield 239, 3, 9, 15, 0, [], none),
  (16, .ifCond .eq 12, 3, 0, 0, 0, [28], none),
  (19, .iload_n 1, 1, 0, 0, 0, [], none),
  (20, .iconst 0, 1, 0, 0, 0, [], none),
  (21, .iconst 2, 1, 0, 0, 0, [], none),
  (22, .invokestatic 125, 3, 0, 0, 0, [], some mX9_in),
  (25, .ifCond .ne 9, 3, 0, 0, 0, [34], none),
  (28, .aload_n 0, 1, 0, 0, 0, [], none),
  (29, .iconst 1, 1, 0, 0, 0, [], none),
  (30, .invokevirtual 229, 3, 0, 0, 0, [], some mX9_refused),
  (33, .ireturn, 1, 0, 0, 0, [], none),
  (34, .iconst 0, 1, 0, 0, 0, [], none),
  (35, .istore_n 2, 1, 0, 0, 0, [], none),
  (36, .iconst 0, 1, 0, 0, 0, [], none),
  (37, .istore_n 3, 1, 0, 0, 0, [], none),
  (38, .iload_n 1, 1, 0, 0, 0, [], none),
  (39, .iconst 2, 1, 0, 0, 0, [], none),
  (40, .if_icmp .ge 91, 3, 0, 0, 0, [131], none),
  (43, .iload_n 3, 1, 0, 0, 0, [], none),
  (44, .aload_n 0, 1, 0, 0, 0, [], none),
  (45, .getfield 324, 3, 9, 40, 0, [], none),
  (48, .if_icmp .ge 83, 3, 0, 0, 0, [131], none),
  (51, .aload_n 0, 1, 0, 0, 0, [], none),
  (52, .iload_n 3, 1, 0, 0, 0, [], none),
  (53, .invokevirtual 331, 3, 0, 0, 0, [], some mX9_isJoining),
  (56, .ifCond .ne 6, 3, 0, 0, 0, [62], none),
  (59, .goto 66, 3, 0, 0, 0, [125], none),
  (62, .aload_n 0, 1, 0, 0, 0, [], none),
  (63, .aload_n 0, 1, 0, 0, 0, [], none),
  (64, .getfield 46, 3, 9, 31, 0, [], none),
  (67, .iload_n 3, 1, 0, 0, 0, [], none),
  (68, .iaload, 1, 0, 0, 0, [], none),
  (69, .aload_n 0, 1, 0, 0, 0, [], none),
  (70, .getfield 49, 3, 9, 32, 0, [], none),
  (73, .iload_n 3, 1, 0, 0, 0, [], none),
  (74, .iaload, 1, 0, 0, 0, [], none),
  (75, .invokevirtual 390, 3, 0, 0, 0, [], some mX9_keptAt),
  (78, .istore 4, 2, 0, 0, 0, [], none),
  (80, .iload_n 2, 1, 0, 0, 0, [], none),
  (81, .iload_n 1, 1, 0, 0, 0, [], none),
  (82, .ifCond .ne 9, 3, 0, 0, 0, [91], none),
  (85, .iload 4, 2, 0, 0, 0, [], none),
  (87, .iconst (-1), 1, 0, 0, 0, [], none),
  (88, .if_icmp .eq 30, 3, 0, 0, 0, [118], none),
  (91, .iload_n 1, 1, 0, 0, 0, [], none),
  (92, .iconst 1, 1, 0, 0, 0, [], none),
  (93, .if_icmp .ne 29, 3, 0, 0, 0, [122], none),
  (96, .iload 4, 2, 0, 0, 0, [], none),
  (98, .iconst (-1), 1, 0, 0, 0, [], none),
  (99, .if_icmp .eq 23, 3, 0, 0, 0, [122], none),
  (102, .aload_n 0, 1, 0, 0, 0, [], none),
  (103, .getfield 91, 3, 9, 48, 0, [], none),
  (106, .iload 4, 2, 0, 0, 0, [], none),
  (108, .iaload, 1, 0, 0, 0, [], none),
  (109, .aload_n 0, 1, 0, 0, 0, [], none),
  (110, .getfield 52, 3, 9, 33, 0, [], none),
  (113, .iload_n 3, 1, 0, 0, 0, [], none),
  (114, .iaload, 1, 0, 0, 0, [], none),
  (115, .if_icmp .eq 7, 3, 0, 0, 0, [122], none),
  (118, .iconst 1, 1, 0, 0, 0, [], none),
  (119, .goto 4, 3, 0, 0, 0, [123], none),
  (122, .iconst 0, 1, 0, 0, 0, [], none),
  (123, .iadd, 1, 0, 0, 0, [], none),
  (124, .istore_n 2, 1, 0, 0, 0, [], none),
  (125, .iinc 3 1, 3, 0, 0, 0, [], none),
  (128, .goto (-90), 3, 0, 0, 0, [38], none),
  (131, .iconst 0, 1, 0, 0, 0, [], none),
  (132, .istore_n 3, 1, 0, 0, 0, [], none),
  (133, .iload_n 1, 1, 0, 0, 0, [], none),
  (134, .iconst 2, 1, 0, 0, 0, [], none),
  (135, .if_icmp .ne 40, 3, 0, 0, 0, [175], none),
  (138, .iload_n 3, 1, 0, 0, 0, [], none),
  (139, .aload_n 0, 1, 0, 0, 0, [], none),
  (140, .getfield 246, 3, 9, 8, 0, [], none),
  (143, .if_icmp .ge 32, 3, 0, 0, 0, [175], none),
  (146, .iload_n 2, 1, 0, 0, 0, [], none),
  (147, .aload_n 0, 1, 0, 0, 0, [], none),
  (148, .getfield 97, 3, 9, 50, 0, [], none),
  (151, .iload_n 3, 1, 0, 0, 0, [], none),
  (152, .iaload, 1, 0, 0, 0, [], none),
  (153, .aload_n 0, 1, 0, 0, 0, [], none),
  (154, .getfield 58, 3, 9, 35, 0, [], none),
  (157, .iload_n 3, 1, 0, 0, 0, [], none),
  (158, .iaload, 1, 0, 0, 0, [], none),
  (159, .if_icmp .eq 7, 3, 0, 0, 0, [166], none),
  (162, .iconst 1, 1, 0, 0, 0, [], none),
  (163, .goto 4, 3, 0, 0, 0, [167], none),
  (166, .iconst 0, 1, 0, 0, 0, [], none),
  (167, .iadd, 1, 0, 0, 0, [], none),
  (168, .istore_n 2, 1, 0, 0, 0, [], none),
  (169, .iinc 3 1, 3, 0, 0, 0, [], none),
  (172, .goto (-39), 3, 0, 0, 0, [133], none),
  (175, .aload_n 0, 1, 0, 0, 0, [], none),
  (176, .iload_n 2, 1, 0, 0, 0, [], none),
  (177, .invokevirtual 255, 3, 0, 0, 0, [], some mX9_good),
  (180, .ireturn, 1, 0, 0, 0, [], none)]
set_option maxRecDepth 100000 in
theorem kX9_unlike : ab_def_ok mX9_unlike rX9_unlike := ⟨ab_mok_of 1741 110 1739 1740 (by decide +kernel), [0, 0, 1202, 0, 1216, 0, 0, 1217, 0, 0, 0, 0, 1387, 0, 0, 0, 1371, 0, 0, 0, 0, 0, 0, 0, 0, 0, 0, 1242, 0, 0, 0, 1594, 0, 0, 0, 0, 1233, 0, 0, 0, 1234, 0, 0, 1742, 0, 0, 0, 0, 0, 0, 0, 0, 0, 0, 0, 0, 0, 0, 1250, 0, 0, 0, 1235, 0, 0, 0, 0, 0, 0, 0, 0, 0, 0, 0, 0, 0, 0, 0, 0, 0, 1210, 0, 0, 0, 1252, 0, 0, 0, 1237, 0, 0, 0, 0, 0, 0, 0, 0, 0, 0, 0, 0, 1519, 0], by decide +kernel⟩
set_option maxRecDepth 100000 in
theorem vX9_unlike_0 {x : ab_Cx} {d mc ms : Nat} {Post : Option ab_V → List ab_Ob → Prop} (hx : ab_At x mX9_unlike d mc ms Post) (a1 : Int) (w0 : ab_Ob) (kc ks : Nat)
    (h : (((w0.1 14) = 0 → (∃ r1 : Int, ∃ v2 : ab_Ob, ab_Calls d 0 0 mX9_refused [ab_O 0, ab_I 1] [(ab_pf w0 0 0)] (some (ab_I r1)) [v2] ∧ Post (some (ab_I r1)) [v2])) ∧ (¬ (w0.1 14) = 0 → (((w0.1 15) = 0 → (∃ r3 : Int, ∃ v4 : ab_Ob, ab_Calls d 0 0 mX9_refused [ab_O 0, ab_I 1] [(ab_pf w0 0 0)] (some (ab_I r3)) [v4] ∧ Post (some (ab_I r3)) [v4])) ∧ (¬ (w0.1 15) = 0 → (∃ r5 : Int, ab_Calls d 0 0 mX9_in [ab_I a1, ab_I 0, ab_I 2] [] (some (ab_I r5)) [] ∧ ((¬ r5 = 0 → ab_J x 38 [some (ab_O 0), some (ab_I a1), some (ab_I 0), some (ab_I 0), none] [] [(ab_pf w0 0 0)] kc ks) ∧ (r5 = 0 → (∃ r6 : Int, ∃ v7 : ab_Ob, ab_Calls d 0 0 mX9_refused [ab_O 0, ab_I 1] [(ab_pf w0 0 0)] (some (ab_I r6)) [v7] ∧ Post (some (ab_I r6)) [v7]))))))))) :
    ab_J x 0 [some (ab_O 0), some (ab_I a1), none, none, none] [] [w0] kc ks := ab_go hx kX9_unlike.2 23 [(38, [true, true, true, true, false]), (133, [true, true, true, true, false])] 0 h
set_option maxRecDepth 100000 in
theorem vX9_unlike_38 {x : ab_Cx} {d mc ms : Nat} {Post : Option ab_V → List ab_Ob → Prop} (hx : ab_At x mX9_unlike d mc ms Post) (l1 l2 l3 : Int) (w0 : ab_Ob) (kc ks : Nat)
    (h : ((2 ≤ l1 → ab_J x 133 [some (ab_O 0), some (ab_I l1), some (ab_I l2), some (ab_I 0), none] [] [w0] kc ks) ∧ (¬ 2 ≤ l1 → (((w0.1 40) ≤ l3 → ab_J x 133 [some (ab_O 0), some (ab_I l1), some (ab_I l2), some (ab_I 0), none] [] [w0] kc ks) ∧ (¬ (w0.1 40) ≤ l3 → (∃ r1 : Int, ab_Calls d 0 0 mX9_isJoining [ab_O 0, ab_I l3] [w0] (some (ab_I r1)) [w0] ∧ ((¬ r1 = 0 → ((0 ≤ l3 ∧ l3 < (w0.2 31).1) ∧ ((0 ≤ l3 ∧ l3 < (w0.2 32).1) ∧ (∃ r2 : Int, ab_Calls d 0 0 mX9_keptAt [ab_O 0, ab_I ((w0.2 31).2 l3), ab_I ((w0.2 32).2 l3)] [w0] (some (ab_I r2)) [w0] ∧ ((¬ l1 = 0 → ((¬ l1 = 1 → ((-2147483648 ≤ l2 + 0 ∧ l2 + 0 ≤ 2147483647) ∧ ((-2147483648 ≤ l3 + 1 ∧ l3 + 1 ≤ 2147483647) ∧ ab_J x 38 [some (ab_O 0), some (ab_I l1), some (ab_I (l2 + 0)), some (ab_I (l3 + 1)), none] [] [w0] kc ks))) ∧ (l1 = 1 → ((r2 = (-1) → ((-2147483648 ≤ l2 + 0 ∧ l2 + 0 ≤ 2147483647) ∧ ((-2147483648 ≤ l3 + 1 ∧ l3 + 1 ≤ 2147483647) ∧ ab_J x 38 [some (ab_O 0), some (ab_I l1), some (ab_I (l2 + 0)), some (ab_I (l3 + 1)), none] [] [w0] kc ks))) ∧ (¬ r2 = (-1) → ((0 ≤ r2 ∧ r2 < (w0.2 48).1) ∧ ((0 ≤ l3 ∧ l3 < (w0.2 33).1) ∧ ((((w0.2 48).2 r2) = ((w0.2 33).2 l3) → ((-2147483648 ≤ l2 + 0 ∧ l2 + 0 ≤ 2147483647) ∧ ((-2147483648 ≤ l3 + 1 ∧ l3 + 1 ≤ 2147483647) ∧ ab_J x 38 [some (ab_O 0), some (ab_I l1), some (ab_I (l2 + 0)), some (ab_I (l3 + 1)), none] [] [w0] kc ks))) ∧ (¬ ((w0.2 48).2 r2) = ((w0.2 33).2 l3) → ((-2147483648 ≤ l2 + 1 ∧ l2 + 1 ≤ 2147483647) ∧ ((-2147483648 ≤ l3 + 1 ∧ l3 + 1 ≤ 2147483647) ∧ ab_J x 38 [some (ab_O 0), some (ab_I l1), some (ab_I (l2 + 1)), some (ab_I (l3 + 1)), none] [] [w0] kc ks))))))))))) ∧ (l1 = 0 → ((r2 = (-1) → ((-2147483648 ≤ l2 + 1 ∧ l2 + 1 ≤ 2147483647) ∧ ((-2147483648 ≤ l3 + 1 ∧ l3 + 1 ≤ 2147483647) ∧ ab_J x 38 [some (ab_O 0), some (ab_I l1), some (ab_I (l2 + 1)), some (ab_I (l3 + 1)), none] [] [w0] kc ks))) ∧ (¬ r2 = (-1) → ((¬ l1 = 1 → ((-2147483648 ≤ l2 + 0 ∧ l2 + 0 ≤ 2147483647) ∧ ((-2147483648 ≤ l3 + 1 ∧ l3 + 1 ≤ 2147483647) ∧ ab_J x 38 [some (ab_O 0), some (ab_I l1), some (ab_I (l2 + 0)), some (ab_I (l3 + 1)), none] [] [w0] kc ks))) ∧ (l1 = 1 → ((r2 = (-1) → ((-2147483648 ≤ l2 + 0 ∧ l2 + 0 ≤ 2147483647) ∧ ((-2147483648 ≤ l3 + 1 ∧ l3 + 1 ≤ 2147483647) ∧ ab_J x 38 [some (ab_O 0), some (ab_I l1), some (ab_I (l2 + 0)), some (ab_I (l3 + 1)), none] [] [w0] kc ks))) ∧ (¬ r2 = (-1) → ((0 ≤ r2 ∧ r2 < (w0.2 48).1) ∧ ((0 ≤ l3 ∧ l3 < (w0.2 33).1) ∧ ((((w0.2 48).2 r2) = ((w0.2 33).2 l3) → ((-2147483648 ≤ l2 + 0 ∧ l2 + 0 ≤ 2147483647) ∧ ((-2147483648 ≤ l3 + 1 ∧ l3 + 1 ≤ 2147483647) ∧ ab_J x 38 [some (ab_O 0), some (ab_I l1), some (ab_I (l2 + 0)), some (ab_I (l3 + 1)), none] [] [w0] kc ks))) ∧ (¬ ((w0.2 48).2 r2) = ((w0.2 33).2 l3) → ((-2147483648 ≤ l2 + 1 ∧ l2 + 1 ≤ 2147483647) ∧ ((-2147483648 ≤ l3 + 1 ∧ l3 + 1 ≤ 2147483647) ∧ ab_J x 38 [some (ab_O 0), some (ab_I l1), some (ab_I (l2 + 1)), some (ab_I (l3 + 1)), none] [] [w0] kc ks)))))))))))))))))) ∧ (r1 = 0 → ((-2147483648 ≤ l3 + 1 ∧ l3 + 1 ≤ 2147483647) ∧ ab_J x 38 [some (ab_O 0), some (ab_I l1), some (ab_I l2), some (ab_I (l3 + 1)), none] [] [w0] kc ks))))))))) :
    ab_J x 38 [some (ab_O 0), some (ab_I l1), some (ab_I l2), some (ab_I l3), none] [] [w0] kc ks := ab_go hx kX9_unlike.2 54 [(38, [true, true, true, true, false]), (133, [true, true, true, true, false])] 38 h
set_option maxRecDepth 100000 in
theorem vX9_unlike_133 {x : ab_Cx} {d mc ms : Nat} {Post : Option ab_V → List ab_Ob → Prop} (hx : ab_At x mX9_unlike d mc ms Post) (l1 l2 l3 : Int) (w0 : ab_Ob) (kc ks : Nat)
    (h : ((¬ l1 = 2 → (∃ r1 : Int, ∃ v2 : ab_Ob, ab_Calls d 0 0 mX9_good [ab_O 0, ab_I l2] [w0] (some (ab_I r1)) [v2] ∧ Post (some (ab_I r1)) [v2])) ∧ (l1 = 2 → (((w0.1 8) ≤ l3 → (∃ r3 : Int, ∃ v4 : ab_Ob, ab_Calls d 0 0 mX9_good [ab_O 0, ab_I l2] [w0] (some (ab_I r3)) [v4] ∧ Post (some (ab_I r3)) [v4])) ∧ (¬ (w0.1 8) ≤ l3 → ((0 ≤ l3 ∧ l3 < (w0.2 50).1) ∧ ((0 ≤ l3 ∧ l3 < (w0.2 35).1) ∧ ((((w0.2 50).2 l3) = ((w0.2 35).2 l3) → ((-2147483648 ≤ l2 + 0 ∧ l2 + 0 ≤ 2147483647) ∧ ((-2147483648 ≤ l3 + 1 ∧ l3 + 1 ≤ 2147483647) ∧ ab_J x 133 [some (ab_O 0), some (ab_I l1), some (ab_I (l2 + 0)), some (ab_I (l3 + 1)), none] [] [w0] kc ks))) ∧ (¬ ((w0.2 50).2 l3) = ((w0.2 35).2 l3) → ((-2147483648 ≤ l2 + 1 ∧ l2 + 1 ≤ 2147483647) ∧ ((-2147483648 ≤ l3 + 1 ∧ l3 + 1 ≤ 2147483647) ∧ ab_J x 133 [some (ab_O 0), some (ab_I l1), some (ab_I (l2 + 1)), some (ab_I (l3 + 1)), none] [] [w0] kc ks))))))))))) :
    ab_J x 133 [some (ab_O 0), some (ab_I l1), some (ab_I l2), some (ab_I l3), none] [] [w0] kc ks := ab_go hx kX9_unlike.2 28 [(38, [true, true, true, true, false]), (133, [true, true, true, true, false])] 133 h
def mX9_keptBreaks : ab_M := ((yX9_keptBreaks, cX9_keptBreaks, 3, (some .int)), ([9], [(0, 0)], [true], false, false, 0), (false, 9, 0))
def rX9_keptBreaks : List ab_R := [(0, .aload_n 0, 1, 0, 0, 0, [], none),
  (1, .iconst 0, 1, 0, 0, 0, [], none),
  (2, .putfield 100, 3, 9, 0, 0, [], none),
  (5, .aload_n 0, 1, 0, 0, 0, [], none),
  (6, .getfield 235, 3, 9, 14, 0, [], none),
  (9, .ifCond .eq 10, 3, 0, 0, 0, [19], none),
  (12, .aload_n 0, 1, 0, 0, 0, [], none),
  (13, .getfield 239, 3, 9, 15, 0, [], none),
  (16, .ifCond .ne 9, 3, 0, 0, 0, [25], none),
  (19, .aload_n 0, 1, 0, 0, 0, [], none),
  (20, .iconst 1, 1, 0, 0, 0, [], none),
  (21, .invokevirtual 229, 3, 0, 0, 0, [], some mX9_refused),
  (24, .ireturn, 1, 0, 0, 0, [], none),
  (25, .iconst 0, 1, 0, 0, 0, [], none),
  (26, .istore_n 1, 1, 0, 0, 0, [], none),
  (27, .iconst 0, 1, 0, 0, 0, [], none),
  (28, .istore_n 2, 1, 0, 0, 0, [], none),
  (29, .iload_n 2, 1, 0, 0, 0, [], none),
  (30, .aload_n 0, 1, 0, 0, 0, [], none),
  (31, .getfield 387, 3, 9, 51, 0, [], none),
  (34, .if_icmp .ge 56, 3, 0, 0, 0, [90], none),
  (37, .iload_n 1, 1, 0, 0, 0, [], none),
  (38, .aload_n 0, 1, 0, 0, 0, [], none),
  (39, .aload_n 0, 1, 0, 0, 0, [], none),
  (40, .getfield 91, 3, 9, 48, 0, [], none),
  (43, .iload_n 2, 1, 0, 0, 0, [], none),
  (44, .iaload, 1, 0, 0, 0, [], none),
  (45, .aload_n 0, 1, 0, 0, 0, [], none),
  (46, .getfield 94, 3, 9, 49, 0, [], none),
  (49, .iload_n 2, 1, 0, 0, 0, [], none),
  (50, .iaload, 1, 0, 0, 0, [], none),
  (51, .aload_n 0, 1, 0, 0, 0, [], none),
  (52, .getfield 88, 3, 9, 47, 0, [], none),
  (55, .iload_n 2, 1, 0, 0, 0, [], none),
  (56, .iaload, 1, 0, 0, 0, [], none),
  (57, .aload_n 0, 1, 0, 0, 0, [], none),
  (58, .getfield 82, 3, 9, 45, 0, [], none),
  (61, .iload_n 2, 1, 0, 0, 0, [], none),
  (62, .iaload, 1, 0, 0, 0, [], none),
  (63, .isub, 1, 0, 0, 0, [], none),
  (64, .iconst 1, 1, 0, 0, 0, [], none),
  (65, .iadd, 1, 0, 0, 0, [], none),
  (66, .aload_n 0, 1, 0, 0, 0, [], none),
  (67, .getfield 85, 3, 9, 46, 0, [], none),
  (70, .iload_n 2, 1, 0, 0, 0, [], none),
  (71, .iaload, 1, 0, 0, 0, [], none),
  (72, .aload_n 0, 1, 0, 0, 0, [], none),
  (73, .getfield 88, 3, 9, 47, 0, [], none),
  (76, .iload_n 2, 1, 0, 0, 0, [], none),
  (77, .iaload, 1, 0, 0, 0, [], none),
  (78, .isub, 1, 0, 0, 0, [], none),
  (79, .invokevirtual 298, 3, 0, 0, 0, [], some mX9_brokenAll),
  (82, .iadd, 1, 0, 0, 0, [], none),
  (83, .istore_n 1, 1, 0, 0, 0, [], none),
  (84, .iinc 2 1, 3, 0, 0, 0, [], none),
  (87, .goto (-58), 3, 0, 0, 0, [29], none),
  (90, .aload_n 0, 1, 0, 0, 0, [], none),
  (91, .iload_n 1, 1, 0, 0, 0, [], none),
  (92, .invokevirtual 255, 3, 0, 0, 0, [], some mX9_good),
  (95, .ireturn, 1, 0, 0, 0, [], none)]
set_option maxRecDepth 100000 in
theorem kX9_keptBreaks : ab_def_ok mX9_keptBreaks rX9_keptBreaks := ⟨ab_mok_of 1749 110 1747 1748 (by decide +kernel), [0, 0, 1202, 0, 1216, 0, 0, 1217, 0, 0, 0, 1371, 0, 0, 0, 0, 0, 0, 0, 1253, 0, 0, 0, 0, 1250, 0, 0, 0, 1251, 0, 0, 0, 1249, 0, 0, 0, 1247, 0, 0, 0, 0, 0, 0, 1248, 0, 0, 0, 1249, 0, 0, 0, 1492, 0, 0, 0, 0, 0, 0, 1519, 0], by decide +kernel⟩
set_option maxRecDepth 100000 in
theorem vX9_keptBreaks_0 {x : ab_Cx} {d mc ms : Nat} {Post : Option ab_V → List ab_Ob → Prop} (hx : ab_At x mX9_keptBreaks d mc ms Post) (w0 : ab_Ob) (kc ks : Nat)
    (h : (((w0.1 14) = 0 → (∃ r1 : Int, ∃ v2 : ab_Ob, ab_Calls d 0 0 mX9_refused [ab_O 0, ab_I 1] [(ab_pf w0 0 0)] (some (ab_I r1)) [v2] ∧ Post (some (ab_I r1)) [v2])) ∧ (¬ (w0.1 14) = 0 → ((¬ (w0.1 15) = 0 → ab_J x 29 [some (ab_O 0), some (ab_I 0), some (ab_I 0)] [] [(ab_pf w0 0 0)] kc ks) ∧ ((w0.1 15) = 0 → (∃ r3 : Int, ∃ v4 : ab_Ob, ab_Calls d 0 0 mX9_refused [ab_O 0, ab_I 1] [(ab_pf w0 0 0)] (some (ab_I r3)) [v4] ∧ Post (some (ab_I r3)) [v4])))))) :
    ab_J x 0 [some (ab_O 0), none, none] [] [w0] kc ks := ab_go hx kX9_keptBreaks.2 18 [(29, [true, true, true])] 0 h
set_option maxRecDepth 100000 in
theorem vX9_keptBreaks_29 {x : ab_Cx} {d mc ms : Nat} {Post : Option ab_V → List ab_Ob → Prop} (hx : ab_At x mX9_keptBreaks d mc ms Post) (l1 l2 : Int) (w0 : ab_Ob) (kc ks : Nat)
    (h : (((w0.1 51) ≤ l2 → (∃ r1 : Int, ∃ v2 : ab_Ob, ab_Calls d 0 0 mX9_good [ab_O 0, ab_I l1] [w0] (some (ab_I r1)) [v2] ∧ Post (some (ab_I r1)) [v2])) ∧ (¬ (w0.1 51) ≤ l2 → ((0 ≤ l2 ∧ l2 < (w0.2 48).1) ∧ ((0 ≤ l2 ∧ l2 < (w0.2 49).1) ∧ ((0 ≤ l2 ∧ l2 < (w0.2 47).1) ∧ ((0 ≤ l2 ∧ l2 < (w0.2 45).1) ∧ ((-2147483648 ≤ ((w0.2 47).2 l2) - ((w0.2 45).2 l2) ∧ ((w0.2 47).2 l2) - ((w0.2 45).2 l2) ≤ 2147483647) ∧ ((-2147483648 ≤ (((w0.2 47).2 l2) - ((w0.2 45).2 l2)) + 1 ∧ (((w0.2 47).2 l2) - ((w0.2 45).2 l2)) + 1 ≤ 2147483647) ∧ ((0 ≤ l2 ∧ l2 < (w0.2 46).1) ∧ ((0 ≤ l2 ∧ l2 < (w0.2 47).1) ∧ ((-2147483648 ≤ ((w0.2 46).2 l2) - ((w0.2 47).2 l2) ∧ ((w0.2 46).2 l2) - ((w0.2 47).2 l2) ≤ 2147483647) ∧ (∃ r3 : Int, ab_Calls d 0 0 mX9_brokenAll [ab_O 0, ab_I ((w0.2 48).2 l2), ab_I ((w0.2 49).2 l2), ab_I ((((w0.2 47).2 l2) - ((w0.2 45).2 l2)) + 1), ab_I (((w0.2 46).2 l2) - ((w0.2 47).2 l2))] [w0] (some (ab_I r3)) [w0] ∧ ((-2147483648 ≤ l1 + r3 ∧ l1 + r3 ≤ 2147483647) ∧ ((-2147483648 ≤ l2 + 1 ∧ l2 + 1 ≤ 2147483647) ∧ ab_J x 29 [some (ab_O 0), some (ab_I (l1 + r3)), some (ab_I (l2 + 1))] [] [w0] kc ks))))))))))))))) :
    ab_J x 29 [some (ab_O 0), some (ab_I l1), some (ab_I l2)] [] [w0] kc ks := ab_go hx kX9_keptBreaks.2 44 [(29, [true, true, true])] 29 h
def mX9_remembers : ab_M := ((yX9_remembers, cX9_remembers, 2, none), ([9], [(0, 0)], [true], false, false, 0), (false, 9, 0))
def rX9_remembers : List ab_R := [(0, .aload_n 0, 1, 0, 0, 0, [], none),
  (1, .getfield 249, 3, 9, 9, 0, [], none),
  (4, .bipush 10, 2, 0, 0, 0, [], none),
  (6, .if_icmp .ne 44, 3, 0, 0, 0, [50], none),
  (9, .bipush 55, 2, 0, 0, 0, [], none),
  (11, .istore_n 1, 1, 0, 0, 0, [], none),
  (12, .iload_n 1, 1, 0, 0, 0, [], none),
  (13, .sipush 550, 3, 0, 0, 0, [], none),
  (16, .if_icmp .ge 24, 3, 0, 0, 0, [40], none),
  (19, .aload_n 0, 1, 0, 0, 0, [], none),
  (20, .getfield 20, 3, 9, 5, 0, [], none),
  (23, .iload_n 1, 1, 0, 0, 0, [], none),
  (24, .bipush 55, 2, 0, 0, 0, [], none),
  (26, .isub, 1, 0, 0, 0, [], none),
  (27, .aload_n 0, 1, 0, 0, 0, [], none),
  (28, .getfield 20, 3, 9, 5, 0, [], none),
  (31, .iload_n 1, 1, 0, 0, 0, [], none),
  (32, .iaload, 1, 0, 0, 0, [], none),
  (33, .iastore, 1, 0, 0, 0, [], none),
  (34, .iinc 1 1, 3, 0, 0, 0, [], none),
  (37, .goto (-25), 3, 0, 0, 0, [12], none),
  (40, .aload_n 0, 1, 0, 0, 0, [], none),
  (41, .dup, 1, 0, 0, 0, [], none),
  (42, .getfield 249, 3, 9, 9, 0, [], none),
  (45, .iconst 1, 1, 0, 0, 0, [], none),
  (46, .isub, 1, 0, 0, 0, [], none),
  (47, .putfield 249, 3, 9, 9, 0, [], none),
  (50, .iconst 0, 1, 0, 0, 0, [], none),
  (51, .istore_n 1, 1, 0, 0, 0, [], none),
  (52, .iload_n 1, 1, 0, 0, 0, [], none),
  (53, .bipush 55, 2, 0, 0, 0, [], none),
  (55, .if_icmp .ge 29, 3, 0, 0, 0, [84], none),
  (58, .aload_n 0, 1, 0, 0, 0, [], none),
  (59, .getfield 20, 3, 9, 5, 0, [], none),
  (62, .bipush 55, 2, 0, 0, 0, [], none),
  (64, .aload_n 0, 1, 0, 0, 0, [], none),
  (65, .getfield 249, 3, 9, 9, 0, [], none),
  (68, .imul, 1, 0, 0, 0, [], none),
  (69, .iload_n 1, 1, 0, 0, 0, [], none),
  (70, .iadd, 1, 0, 0, 0, [], none),
  (71, .aload_n 0, 1, 0, 0, 0, [], none),
  (72, .getfield 13, 3, 9, 3, 0, [], none),
  (75, .iload_n 1, 1, 0, 0, 0, [], none),
  (76, .iaload, 1, 0, 0, 0, [], none),
  (77, .iastore, 1, 0, 0, 0, [], none),
  (78, .iinc 1 1, 3, 0, 0, 0, [], none),
  (81, .goto (-29), 3, 0, 0, 0, [52], none),
  (84, .aload_n 0, 1, 0, 0, 0, [], none),
  (85, .dup, 1, 0, 0, 0, [], none),
  (86, .getfield 249, 3, 9, 9, 0, [], none),
  (89, .iconst 1, 1, 0, 0, 0, [], none),
  (90, .iadd, 1, 0, 0, 0, [], none),
  (91, .putfield 249, 3, 9, 9, 0, [], none),
  (94, .return_, 1, 0, 0, 0, [], none)]
set_option maxRecDepth 100000 in
theorem kX9_remembers : ab_def_ok mX9_remembers rX9_remembers := ⟨ab_mok_of 1761 110 1760 99 (by decide +kernel), [0, 1211, 0, 0, 0, 0, 0, 0, 0, 0, 1207, 0, 0, 0, 0, 1207, 0, 0, 0, 0, 0, 0, 0, 1211, 0, 0, 1211, 0, 0, 0, 0, 0, 0, 1207, 0, 0, 1211, 0, 0, 0, 0, 1205, 0, 0, 0, 0, 0, 0, 0, 1211, 0, 0, 1211, 0], by decide +kernel⟩
set_option maxRecDepth 100000 in
theorem vX9_remembers_0 {x : ab_Cx} {d mc ms : Nat} {Post : Option ab_V → List ab_Ob → Prop} (hx : ab_At x mX9_remembers d mc ms Post) (w0 : ab_Ob) (kc ks : Nat)
    (h : ((¬ (w0.1 9) = 10 → ab_J x 52 [some (ab_O 0), some (ab_I 0)] [] [w0] kc ks) ∧ ((w0.1 9) = 10 → ab_J x 12 [some (ab_O 0), some (ab_I 55)] [] [w0] kc ks))) :
    ab_J x 0 [some (ab_O 0), none] [] [w0] kc ks := ab_go hx kX9_remembers.2 11 [(12, [true, true]), (52, [true, true])] 0 h
set_option maxRecDepth 100000 in
theorem vX9_remembers_52 {x : ab_Cx} {d mc ms : Nat} {Post : Option ab_V → List ab_Ob → Prop} (hx : ab_At x mX9_remembers d mc ms Post) (l1 : Int) (w0 : ab_Ob) (kc ks : Nat)
    (h : ((55 ≤ l1 → ((-2147483648 ≤ (w0.1 9) + 1 ∧ (w0.1 9) + 1 ≤ 2147483647) ∧ Post none [(ab_pf w0 9 ((w0.1 9) + 1))])) ∧ (¬ 55 ≤ l1 → ((-2147483648 ≤ 55 * (w0.1 9) ∧ 55 * (w0.1 9) ≤ 2147483647) ∧ ((-2147483648 ≤ (55 * (w0.1 9)) + l1 ∧ (55 * (w0.1 9)) + l1 ≤ 2147483647) ∧ ((0 ≤ l1 ∧ l1 < (w0.2 3).1) ∧ ((0 ≤ ((55 * (w0.1 9)) + l1) ∧ ((55 * (w0.1 9)) + l1) < (w0.2 5).1) ∧ ((-2147483648 ≤ l1 + 1 ∧ l1 + 1 ≤ 2147483647) ∧ ab_J x 52 [some (ab_O 0), some (ab_I (l1 + 1))] [] [(ab_pa w0 5 ((55 * (w0.1 9)) + l1) ((w0.2 3).2 l1))] kc ks)))))))) :
    ab_J x 52 [some (ab_O 0), some (ab_I l1)] [] [w0] kc ks := ab_go hx kX9_remembers.2 23 [(12, [true, true]), (52, [true, true])] 52 h
set_option maxRecDepth 100000 in
theorem vX9_remembers_12 {x : ab_Cx} {d mc ms : Nat} {Post : Option ab_V → List ab_Ob → Prop} (hx : ab_At x mX9_remembers d mc ms Post) (l1 : Int) (w0 : ab_Ob) (kc ks : Nat)
    (h : ((550 ≤ l1 → ((-2147483648 ≤ (w0.1 9) - 1 ∧ (w0.1 9) - 1 ≤ 2147483647) ∧ ab_J x 52 [some (ab_O 0), some (ab_I 0)] [] [(ab_pf w0 9 ((w0.1 9) - 1))] kc ks)) ∧ (¬ 550 ≤ l1 → ((-2147483648 ≤ l1 - 55 ∧ l1 - 55 ≤ 2147483647) ∧ ((0 ≤ l1 ∧ l1 < (w0.2 5).1) ∧ ((0 ≤ (l1 - 55) ∧ (l1 - 55) < (w0.2 5).1) ∧ ((-2147483648 ≤ l1 + 1 ∧ l1 + 1 ≤ 2147483647) ∧ ab_J x 12 [some (ab_O 0), some (ab_I (l1 + 1))] [] [(ab_pa w0 5 (l1 - 55) ((w0.2 5).2 l1))] kc ks))))))) :
    ab_J x 12 [some (ab_O 0), some (ab_I l1)] [] [w0] kc ks := ab_go hx kX9_remembers.2 20 [(12, [true, true]), (52, [true, true])] 12 h
def mX9_sets : ab_M := ((yX9_sets, cX9_sets, 4, (some .int)), ([9], [(0, 0)], [true], false, false, 0), (false, 9, 2))
def rX9_sets : List ab_R := [(0, .aload_n 0, 1, 0, 0, 0, [], none),
  (1, .invokevirtual 393, 3, 0, 0, 0, [], some mX9_remembers),
  (4, .aload_n 0, 1, 0, 0, 0, [], none),
  (5, .getfield 13, 3, 9, 3, 0, [], none),
  (8, .iload_n 1, 1, 0, 0, 0, [], none),
  (9, .iaload, 1, 0, 0, 0, [], none),
  (10, .istore_n 3, 1, 0, 0, 0, [], none),
  (11, .aload_n 0, 1, 0, 0, 0, [], none),
  (12, .getfield 13, 3, 9, 3, 0, [], none),
  (15, .iload_n 1, 1, 0, 0, 0, [], none),
  (16, .iload_n 2, 1, 0, 0, 0, [], none),
  (17, .iastore, 1, 0, 0, 0, [], none),
  (18, .aload_n 0, 1, 0, 0, 0, [], none),
  (19, .invokevirtual 252, 3, 0, 0, 0, [], some mX9_lays),
  (22, .aload_n 0, 1, 0, 0, 0, [], none),
  (23, .iload_n 3, 1, 0, 0, 0, [], none),
  (24, .invokevirtual 255, 3, 0, 0, 0, [], some mX9_good),
  (27, .ireturn, 1, 0, 0, 0, [], none)]
set_option maxRecDepth 100000 in
theorem kX9_sets : ab_def_ok mX9_sets rX9_sets := ⟨ab_mok_of 1757 110 1756 98 (by decide +kernel), [0, 1758, 0, 1205, 0, 0, 0, 0, 1205, 0, 0, 0, 0, 1452, 0, 0, 1519, 0], by decide +kernel⟩
set_option maxRecDepth 100000 in
theorem vX9_sets_0 {x : ab_Cx} {d mc ms : Nat} {Post : Option ab_V → List ab_Ob → Prop} (hx : ab_At x mX9_sets d mc ms Post) (a1 a2 : Int) (w0 : ab_Ob) (kc ks : Nat)
    (h : (∃ v1 : ab_Ob, ab_Calls d 0 0 mX9_remembers [ab_O 0] [w0] none [v1] ∧ ((0 ≤ a1 ∧ a1 < (v1.2 3).1) ∧ ((0 ≤ a1 ∧ a1 < (v1.2 3).1) ∧ (∃ v2 : ab_Ob, ab_Calls d 0 0 mX9_lays [ab_O 0] [(ab_pa v1 3 a1 a2)] none [v2] ∧ (∃ r3 : Int, ∃ v4 : ab_Ob, ab_Calls d 0 0 mX9_good [ab_O 0, ab_I ((v1.2 3).2 a1)] [v2] (some (ab_I r3)) [v4] ∧ Post (some (ab_I r3)) [v4])))))) :
    ab_J x 0 [some (ab_O 0), some (ab_I a1), some (ab_I a2), none] [] [w0] kc ks := ab_go hx kX9_sets.2 22 [] 0 h
def mX9_pitch : ab_M := ((yX9_pitch, cX9_pitch, 3, (some .int)), ([9], [(0, 0)], [true], false, false, 0), (false, 9, 2))
def rX9_pitch : List ab_R := [(0, .aload_n 0, 1, 0, 0, 0, [], none),
  (1, .iconst 0, 1, 0, 0, 0, [], none),
  (2, .putfield 100, 3, 9, 0, 0, [], none),
  (5, .aload_n 0, 1, 0, 0, 0, [], none),
  (6, .iload_n 1, 1, 0, 0, 0, [], none),
  (7, .invokevirtual 307, 3, 0, 0, 0, [], some mX9_isNote),
  (10, .ifCond .ne 9, 3, 0, 0, 0, [19], none),
  (13, .aload_n 0, 1, 0, 0, 0, [], none),
  (14, .iconst 1, 1, 0, 0, 0, [], none),
  (15, .invokevirtual 229, 3, 0, 0, 0, [], some mX9_refused),
  (18, .ireturn, 1, 0, 0, 0, [], none),
  (19, .iload_n 2, 1, 0, 0, 0, [], none),
  (20, .iconst 0, 1, 0, 0, 0, [], none),
  (21, .bipush 99, 2, 0, 0, 0, [], none),
  (23, .invokestatic 125, 3, 0, 0, 0, [], some mX9_in),
  (26, .ifCond .eq 14, 3, 0, 0, 0, [40], none),
  (29, .aload_n 0, 1, 0, 0, 0, [], none),
  (30, .iconst 0, 1, 0, 0, 0, [], none),
  (31, .iload_n 1, 1, 0, 0, 0, [], none),
  (32, .iadd, 1, 0, 0, 0, [], none),
  (33, .iload_n 2, 1, 0, 0, 0, [], none),
  (34, .invokevirtual 396, 3, 0, 0, 0, [], some mX9_sets),
  (37, .goto 8, 3, 0, 0, 0, [45], none),
  (40, .aload_n 0, 1, 0, 0, 0, [], none),
  (41, .iconst 2, 1, 0, 0, 0, [], none),
  (42, .invokevirtual 229, 3, 0, 0, 0, [], some mX9_refused),
  (45, .ireturn, 1, 0, 0, 0, [], none)]
set_option maxRecDepth 100000 in
theorem kX9_pitch : ab_def_ok mX9_pitch rX9_pitch := ⟨ab_mok_of 1753 110 1751 1752 (by decide +kernel), [0, 0, 1202, 0, 0, 1539, 0, 0, 0, 1371, 0, 0, 0, 0, 1387, 0, 0, 0, 0, 0, 0, 1754, 0, 0, 0, 1371, 0], by decide +kernel⟩
set_option maxRecDepth 100000 in
theorem vX9_pitch_0 {x : ab_Cx} {d mc ms : Nat} {Post : Option ab_V → List ab_Ob → Prop} (hx : ab_At x mX9_pitch d mc ms Post) (a1 a2 : Int) (w0 : ab_Ob) (kc ks : Nat)
    (h : (∃ r1 : Int, ab_Calls d 0 0 mX9_isNote [ab_O 0, ab_I a1] [(ab_pf w0 0 0)] (some (ab_I r1)) [(ab_pf w0 0 0)] ∧ ((¬ r1 = 0 → (∃ r2 : Int, ab_Calls d 0 0 mX9_in [ab_I a2, ab_I 0, ab_I 99] [] (some (ab_I r2)) [] ∧ ((r2 = 0 → (∃ r3 : Int, ∃ v4 : ab_Ob, ab_Calls d 0 0 mX9_refused [ab_O 0, ab_I 2] [(ab_pf w0 0 0)] (some (ab_I r3)) [v4] ∧ Post (some (ab_I r3)) [v4])) ∧ (¬ r2 = 0 → ((-2147483648 ≤ 0 + a1 ∧ 0 + a1 ≤ 2147483647) ∧ (∃ r5 : Int, ∃ v6 : ab_Ob, ab_Calls d 0 0 mX9_sets [ab_O 0, ab_I (0 + a1), ab_I a2] [(ab_pf w0 0 0)] (some (ab_I r5)) [v6] ∧ Post (some (ab_I r5)) [v6])))))) ∧ (r1 = 0 → (∃ r7 : Int, ∃ v8 : ab_Ob, ab_Calls d 0 0 mX9_refused [ab_O 0, ab_I 1] [(ab_pf w0 0 0)] (some (ab_I r7)) [v8] ∧ Post (some (ab_I r7)) [v8]))))) :
    ab_J x 0 [some (ab_O 0), some (ab_I a1), some (ab_I a2)] [] [w0] kc ks := ab_go hx kX9_pitch.2 24 [] 0 h
def mX9_last : ab_M := ((yX9_last, cX9_last, 3, (some .int)), ([9], [(0, 0)], [true], false, false, 0), (false, 9, 2))
def rX9_last : List ab_R := [(0, .aload_n 0, 1, 0, 0, 0, [], none),
  (1, .iconst 0, 1, 0, 0, 0, [], none),
  (2, .putfield 100, 3, 9, 0, 0, [], none),
  (5, .aload_n 0, 1, 0, 0, 0, [], none),
  (6, .iload_n 1, 1, 0, 0, 0, [], none),
  (7, .invokevirtual 307, 3, 0, 0, 0, [], some mX9_isNote),
  (10, .ifCond .ne 9, 3, 0, 0, 0, [19], none),
  (13, .aload_n 0, 1, 0, 0, 0, [], none),
  (14, .iconst 1, 1, 0, 0, 0, [], none),
  (15, .invokevirtual 229, 3, 0, 0, 0, [], some mX9_refused),
  (18, .ireturn, 1, 0, 0, 0, [], none),
  (19, .iload_n 2, 1, 0, 0, 0, [], none),
  (20, .iconst 1, 1, 0, 0, 0, [], none),
  (21, .bipush 64, 2, 0, 0, 0, [], none),
  (23, .invokestatic 125, 3, 0, 0, 0, [], some mX9_in),
  (26, .ifCond .eq 15, 3, 0, 0, 0, [41], none),
  (29, .aload_n 0, 1, 0, 0, 0, [], none),
  (30, .bipush 24, 2, 0, 0, 0, [], none),
  (32, .iload_n 1, 1, 0, 0, 0, [], none),
  (33, .iadd, 1, 0, 0, 0, [], none),
  (34, .iload_n 2, 1, 0, 0, 0, [], none),
  (35, .invokevirtual 396, 3, 0, 0, 0, [], some mX9_sets),
  (38, .goto 8, 3, 0, 0, 0, [46], none),
  (41, .aload_n 0, 1, 0, 0, 0, [], none),
  (42, .iconst 2, 1, 0, 0, 0, [], none),
  (43, .invokevirtual 229, 3, 0, 0, 0, [], some mX9_refused),
  (46, .ireturn, 1, 0, 0, 0, [], none)]
set_option maxRecDepth 100000 in
theorem kX9_last : ab_def_ok mX9_last rX9_last := ⟨ab_mok_of 1765 110 1763 1764 (by decide +kernel), [0, 0, 1202, 0, 0, 1539, 0, 0, 0, 1371, 0, 0, 0, 0, 1387, 0, 0, 0, 0, 0, 0, 1754, 0, 0, 0, 1371, 0], by decide +kernel⟩
set_option maxRecDepth 100000 in
theorem vX9_last_0 {x : ab_Cx} {d mc ms : Nat} {Post : Option ab_V → List ab_Ob → Prop} (hx : ab_At x mX9_last d mc ms Post) (a1 a2 : Int) (w0 : ab_Ob) (kc ks : Nat)
    (h : (∃ r1 : Int, ab_Calls d 0 0 mX9_isNote [ab_O 0, ab_I a1] [(ab_pf w0 0 0)] (some (ab_I r1)) [(ab_pf w0 0 0)] ∧ ((¬ r1 = 0 → (∃ r2 : Int, ab_Calls d 0 0 mX9_in [ab_I a2, ab_I 1, ab_I 64] [] (some (ab_I r2)) [] ∧ ((r2 = 0 → (∃ r3 : Int, ∃ v4 : ab_Ob, ab_Calls d 0 0 mX9_refused [ab_O 0, ab_I 2] [(ab_pf w0 0 0)] (some (ab_I r3)) [v4] ∧ Post (some (ab_I r3)) [v4])) ∧ (¬ r2 = 0 → ((-2147483648 ≤ 24 + a1 ∧ 24 + a1 ≤ 2147483647) ∧ (∃ r5 : Int, ∃ v6 : ab_Ob, ab_Calls d 0 0 mX9_sets [ab_O 0, ab_I (24 + a1), ab_I a2] [(ab_pf w0 0 0)] (some (ab_I r5)) [v6] ∧ Post (some (ab_I r5)) [v6])))))) ∧ (r1 = 0 → (∃ r7 : Int, ∃ v8 : ab_Ob, ab_Calls d 0 0 mX9_refused [ab_O 0, ab_I 1] [(ab_pf w0 0 0)] (some (ab_I r7)) [v8] ∧ Post (some (ab_I r7)) [v8]))))) :
    ab_J x 0 [some (ab_O 0), some (ab_I a1), some (ab_I a2)] [] [w0] kc ks := ab_go hx kX9_last.2 24 [] 0 h
def mX9_weigh : ab_M := ((yX9_weigh, cX9_weigh, 3, (some .int)), ([9], [(0, 0)], [true], false, false, 0), (false, 9, 2))
def rX9_weigh : List ab_R := [(0, .aload_n 0, 1, 0, 0, 0, [], none),
  (1, .iconst 0, 1, 0, 0, 0, [], none),
  (2, .putfield 100, 3, 9, 0, 0, [], none),
  (5, .aload_n 0, 1, 0, 0, 0, [], none),
  (6, .getfield 235, 3, 9, 14, 0, [], none),
  (9, .ifCond .eq 10, 3, 0, 0, 0, [19], none),
  (12, .iload_n 1, 1, 0, 0, 0, [], none),
  (13, .invokestatic 311, 3, 0, 0, 0, [], some mX9_isRule),
  (16, .ifCond .ne 9, 3, 0, 0, 0, [25], none),
  (19, .aload_n 0, 1, 0, 0, 0, [], none),
  (20, .iconst 1, 1, 0, 0, 0, [], none),
  (21, .invokevirtual 229, 3, 0, 0, 0, [], some mX9_refused),
  (24, .ireturn, 1, 0, 0, 0, [], none),
  (25, .iload_n 2, 1, 0, 0, 0, [], none),
  (26, .iconst 0, 1, 0, 0, 0, [], none),
  (27, .bipush 99, 2, 0, 0, 0, [], none),
  (29, .invokestatic 125, 3, 0, 0, 0, [], some mX9_in),
  (32, .ifCond .eq 15, 3, 0, 0, 0, [47], none),
  (35, .aload_n 0, 1, 0, 0, 0, [], none),
  (36, .bipush 48, 2, 0, 0, 0, [], none),
  (38, .iload_n 1, 1, 0, 0, 0, [], none),
  (39, .iadd, 1, 0, 0, 0, [], none),
  (40, .iload_n 2, 1, 0, 0, 0, [], none),
  (41, .invokevirtual 396, 3, 0, 0, 0, [], some mX9_sets),
  (44, .goto 8, 3, 0, 0, 0, [52], none),
  (47, .aload_n 0, 1, 0, 0, 0, [], none),
  (48, .iconst 2, 1, 0, 0, 0, [], none),
  (49, .invokevirtual 229, 3, 0, 0, 0, [], some mX9_refused),
  (52, .ireturn, 1, 0, 0, 0, [], none)]
set_option maxRecDepth 100000 in
theorem kX9_weigh : ab_def_ok mX9_weigh rX9_weigh := ⟨ab_mok_of 1769 110 1767 1768 (by decide +kernel), [0, 0, 1202, 0, 1216, 0, 0, 1547, 0, 0, 0, 1371, 0, 0, 0, 0, 1387, 0, 0, 0, 0, 0, 0, 1754, 0, 0, 0, 1371, 0], by decide +kernel⟩
set_option maxRecDepth 100000 in
theorem vX9_weigh_0 {x : ab_Cx} {d mc ms : Nat} {Post : Option ab_V → List ab_Ob → Prop} (hx : ab_At x mX9_weigh d mc ms Post) (a1 a2 : Int) (w0 : ab_Ob) (kc ks : Nat)
    (h : (((w0.1 14) = 0 → (∃ r1 : Int, ∃ v2 : ab_Ob, ab_Calls d 0 0 mX9_refused [ab_O 0, ab_I 1] [(ab_pf w0 0 0)] (some (ab_I r1)) [v2] ∧ Post (some (ab_I r1)) [v2])) ∧ (¬ (w0.1 14) = 0 → (∃ r3 : Int, ab_Calls d 0 0 mX9_isRule [ab_I a1] [] (some (ab_I r3)) [] ∧ ((¬ r3 = 0 → (∃ r4 : Int, ab_Calls d 0 0 mX9_in [ab_I a2, ab_I 0, ab_I 99] [] (some (ab_I r4)) [] ∧ ((r4 = 0 → (∃ r5 : Int, ∃ v6 : ab_Ob, ab_Calls d 0 0 mX9_refused [ab_O 0, ab_I 2] [(ab_pf w0 0 0)] (some (ab_I r5)) [v6] ∧ Post (some (ab_I r5)) [v6])) ∧ (¬ r4 = 0 → ((-2147483648 ≤ 48 + a1 ∧ 48 + a1 ≤ 2147483647) ∧ (∃ r7 : Int, ∃ v8 : ab_Ob, ab_Calls d 0 0 mX9_sets [ab_O 0, ab_I (48 + a1), ab_I a2] [(ab_pf w0 0 0)] (some (ab_I r7)) [v8] ∧ Post (some (ab_I r7)) [v8])))))) ∧ (r3 = 0 → (∃ r9 : Int, ∃ v10 : ab_Ob, ab_Calls d 0 0 mX9_refused [ab_O 0, ab_I 1] [(ab_pf w0 0 0)] (some (ab_I r9)) [v10] ∧ Post (some (ab_I r9)) [v10]))))))) :
    ab_J x 0 [some (ab_O 0), some (ab_I a1), some (ab_I a2)] [] [w0] kc ks := ab_go hx kX9_weigh.2 26 [] 0 h
def mX9_key : ab_M := ((yX9_key, cX9_key, 2, (some .int)), ([9], [(0, 0)], [true], false, false, 0), (false, 9, 1))
def rX9_key : List ab_R := [(0, .aload_n 0, 1, 0, 0, 0, [], none),
  (1, .iconst 0, 1, 0, 0, 0, [], none),
  (2, .putfield 100, 3, 9, 0, 0, [], none),
  (5, .aload_n 0, 1, 0, 0, 0, [], none),
  (6, .getfield 235, 3, 9, 14, 0, [], none),
  (9, .ifCond .ne 9, 3, 0, 0, 0, [18], none),
  (12, .aload_n 0, 1, 0, 0, 0, [], none),
  (13, .iconst 1, 1, 0, 0, 0, [], none),
  (14, .invokevirtual 229, 3, 0, 0, 0, [], some mX9_refused),
  (17, .ireturn, 1, 0, 0, 0, [], none),
  (18, .iload_n 1, 1, 0, 0, 0, [], none),
  (19, .iconst 0, 1, 0, 0, 0, [], none),
  (20, .bipush 11, 2, 0, 0, 0, [], none),
  (22, .invokestatic 125, 3, 0, 0, 0, [], some mX9_in),
  (25, .ifCond .eq 13, 3, 0, 0, 0, [38], none),
  (28, .aload_n 0, 1, 0, 0, 0, [], none),
  (29, .bipush 54, 2, 0, 0, 0, [], none),
  (31, .iload_n 1, 1, 0, 0, 0, [], none),
  (32, .invokevirtual 396, 3, 0, 0, 0, [], some mX9_sets),
  (35, .goto 8, 3, 0, 0, 0, [43], none),
  (38, .aload_n 0, 1, 0, 0, 0, [], none),
  (39, .iconst 2, 1, 0, 0, 0, [], none),
  (40, .invokevirtual 229, 3, 0, 0, 0, [], some mX9_refused),
  (43, .ireturn, 1, 0, 0, 0, [], none)]
set_option maxRecDepth 100000 in
theorem kX9_key : ab_def_ok mX9_key rX9_key := ⟨ab_mok_of 1773 110 1771 1772 (by decide +kernel), [0, 0, 1202, 0, 1216, 0, 0, 0, 1371, 0, 0, 0, 0, 1387, 0, 0, 0, 0, 1754, 0, 0, 0, 1371, 0], by decide +kernel⟩
set_option maxRecDepth 100000 in
theorem vX9_key_0 {x : ab_Cx} {d mc ms : Nat} {Post : Option ab_V → List ab_Ob → Prop} (hx : ab_At x mX9_key d mc ms Post) (a1 : Int) (w0 : ab_Ob) (kc ks : Nat)
    (h : ((¬ (w0.1 14) = 0 → (∃ r1 : Int, ab_Calls d 0 0 mX9_in [ab_I a1, ab_I 0, ab_I 11] [] (some (ab_I r1)) [] ∧ ((r1 = 0 → (∃ r2 : Int, ∃ v3 : ab_Ob, ab_Calls d 0 0 mX9_refused [ab_O 0, ab_I 2] [(ab_pf w0 0 0)] (some (ab_I r2)) [v3] ∧ Post (some (ab_I r2)) [v3])) ∧ (¬ r1 = 0 → (∃ r4 : Int, ∃ v5 : ab_Ob, ab_Calls d 0 0 mX9_sets [ab_O 0, ab_I 54, ab_I a1] [(ab_pf w0 0 0)] (some (ab_I r4)) [v5] ∧ Post (some (ab_I r4)) [v5]))))) ∧ ((w0.1 14) = 0 → (∃ r6 : Int, ∃ v7 : ab_Ob, ab_Calls d 0 0 mX9_refused [ab_O 0, ab_I 1] [(ab_pf w0 0 0)] (some (ab_I r6)) [v7] ∧ Post (some (ab_I r6)) [v7])))) :
    ab_J x 0 [some (ab_O 0), some (ab_I a1)] [] [w0] kc ks := ab_go hx kX9_key.2 21 [] 0 h
def mX9_move : ab_M := ((yX9_move, cX9_move, 3, (some .int)), ([9], [(0, 0)], [true], false, false, 0), (false, 9, 1))
def rX9_move : List ab_R := [(0, .aload_n 0, 1, 0, 0, 0, [], none),
  (1, .iconst 0, 1, 0, 0, 0, [], none),
  (2, .putfield 100, 3, 9, 0, 0, [], none),
  (5, .aload_n 0, 1, 0, 0, 0, [], none),
  (6, .getfield 235, 3, 9, 14, 0, [], none),
  (9, .ifCond .ne 9, 3, 0, 0, 0, [18], none),
  (12, .aload_n 0, 1, 0, 0, 0, [], none),
  (13, .iconst 1, 1, 0, 0, 0, [], none),
  (14, .invokevirtual 229, 3, 0, 0, 0, [], some mX9_refused),
  (17, .ireturn, 1, 0, 0, 0, [], none),
  (18, .iload_n 1, 1, 0, 0, 0, [], none),
  (19, .bipush (-99), 2, 0, 0, 0, [], none),
  (21, .bipush 99, 2, 0, 0, 0, [], none),
  (23, .invokestatic 125, 3, 0, 0, 0, [], some mX9_in),
  (26, .ifCond .ne 9, 3, 0, 0, 0, [35], none),
  (29, .aload_n 0, 1, 0, 0, 0, [], none),
  (30, .iconst 2, 1, 0, 0, 0, [], none),
  (31, .invokevirtual 229, 3, 0, 0, 0, [], some mX9_refused),
  (34, .ireturn, 1, 0, 0, 0, [], none),
  (35, .iconst 0, 1, 0, 0, 0, [], none),
  (36, .istore_n 2, 1, 0, 0, 0, [], none),
  (37, .iload_n 2, 1, 0, 0, 0, [], none),
  (38, .aload_n 0, 1, 0, 0, 0, [], none),
  (39, .getfield 246, 3, 9, 8, 0, [], none),
  (42, .if_icmp .ge 31, 3, 0, 0, 0, [73], none),
  (45, .aload_n 0, 1, 0, 0, 0, [], none),
  (46, .iload_n 2, 1, 0, 0, 0, [], none),
  (47, .invokevirtual 264, 3, 0, 0, 0, [], some mX9_pitchOf),
  (50, .iload_n 1, 1, 0, 0, 0, [], none),
  (51, .iadd, 1, 0, 0, 0, [], none),
  (52, .iconst 0, 1, 0, 0, 0, [], none),
  (53, .bipush 99, 2, 0, 0, 0, [], none),
  (55, .invokestatic 125, 3, 0, 0, 0, [], some mX9_in),
  (58, .ifCond .ne 9, 3, 0, 0, 0, [67], none),
  (61, .aload_n 0, 1, 0, 0, 0, [], none),
  (62, .iconst 5, 1, 0, 0, 0, [], none),
  (63, .invokevirtual 229, 3, 0, 0, 0, [], some mX9_refused),
  (66, .ireturn, 1, 0, 0, 0, [], none),
  (67, .iinc 2 1, 3, 0, 0, 0, [], none),
  (70, .goto (-33), 3, 0, 0, 0, [37], none),
  (73, .aload_n 0, 1, 0, 0, 0, [], none),
  (74, .invokevirtual 393, 3, 0, 0, 0, [], some mX9_remembers),
  (77, .iconst 0, 1, 0, 0, 0, [], none),
  (78, .istore_n 2, 1, 0, 0, 0, [], none),
  (79, .iload_n 2, 1, 0, 0, 0, [], none),
  (80, .aload_n 0, 1, 0, 0, 0, [], none),
  (81, .getfield 246, 3, 9, 8, 0, [], none),
  (84, .if_icmp .ge 21, 3, 0, 0, 0, [105], none),
  (87, .aload_n 0, 1, 0, 0, 0, [], none),
  (88, .getfield 13, 3, 9, 3, 0, [], none),
  (91, .iconst 0, 1, 0, 0, 0, [], none),
  (92, .iload_n 2, 1, 0, 0, 0, [], none),
  (93, .iadd, 1, 0, 0, 0, [], none),
  (94, .dup2, 1, 0, 0, 0, [], none),
  (95, .iaload, 1, 0, 0, 0, [], none),
  (96, .iload_n 1, 1, 0, 0, 0, [], none),
  (97, .iadd, 1, 0, 0, 0, [], none),
  (98, .iastore, 1, 0, 0, 0, [], none),
  (99, .iinc 2 1, 3, 0, 0, 0, [], none),
  (102, .goto (-23), 3, 0, 0, 0, [79], none),
  (105, .aload_n 0, 1, 0, 0, 0, [], none),
  (106, .invokevirtual 252, 3, 0, 0, 0, [], some mX9_lays),
  (109, .aload_n 0, 1, 0, 0, 0, [], none),
  (110, .aload_n 0, 1, 0, 0, 0, [], none),
  (111, .getfield 33, 3, 9, 27, 0, [], none),
  (114, .iconst 0, 1, 0, 0, 0, [], none),
  (115, .aload_n 0, 1, 0, 0, 0, [], none),
  (116, .getfield 246, 3, 9, 8, 0, [], none),
  (119, .iconst 1, 1, 0, 0, 0, [], none),
  (120, .isub, 1, 0, 0, 0, [], none),
  (121, .aload_n 0, 1, 0, 0, 0, [], none),
  (122, .iconst 0, 1, 0, 0, 0, [], none),
  (123, .aload_n 0, 1, 0, 0, 0, [], none),
  (124, .getfield 246, 3, 9, 8, 0, [], none),
  (127, .iconst 1, 1, 0, 0, 0, [], none),
  (128, .isub, 1, 0, 0, 0, [], none),
  (129, .invokevirtual 318, 3, 0, 0, 0, [], some mX9_headOf),
  (132, .invokestatic 289, 3, 0, 0, 0, [], some mX9_cube),
  (135, .iaload, 1, 0, 0, 0, [], none),
  (136, .invokevirtual 255, 3, 0, 0, 0, [], some mX9_good),
  (139, .ireturn, 1, 0, 0, 0, [], none)]
set_option maxRecDepth 100000 in
theorem kX9_move : ab_def_ok mX9_move rX9_move := ⟨ab_mok_of 1777 110 1775 1776 (by decide +kernel), [0, 0, 1202, 0, 1216, 0, 0, 0, 1371, 0, 0, 0, 0, 1387, 0, 0, 0, 1371, 0, 0, 0, 0, 0, 1210, 0, 0, 0, 1472, 0, 0, 0, 0, 1387, 0, 0, 0, 1371, 0, 0, 0, 0, 1758, 0, 0, 0, 0, 1210, 0, 0, 1205, 0, 0, 0, 0, 0, 0, 0, 0, 0, 0, 0, 1452, 0, 0, 1229, 0, 0, 1210, 0, 0, 0, 0, 0, 1210, 0, 0, 1511, 1480, 0, 1519, 0], by decide +kernel⟩
set_option maxRecDepth 100000 in
theorem vX9_move_0 {x : ab_Cx} {d mc ms : Nat} {Post : Option ab_V → List ab_Ob → Prop} (hx : ab_At x mX9_move d mc ms Post) (a1 : Int) (w0 : ab_Ob) (kc ks : Nat)
    (h : ((¬ (w0.1 14) = 0 → (∃ r1 : Int, ab_Calls d 0 0 mX9_in [ab_I a1, ab_I (-99), ab_I 99] [] (some (ab_I r1)) [] ∧ ((¬ r1 = 0 → ab_J x 37 [some (ab_O 0), some (ab_I a1), some (ab_I 0)] [] [(ab_pf w0 0 0)] kc ks) ∧ (r1 = 0 → (∃ r2 : Int, ∃ v3 : ab_Ob, ab_Calls d 0 0 mX9_refused [ab_O 0, ab_I 2] [(ab_pf w0 0 0)] (some (ab_I r2)) [v3] ∧ Post (some (ab_I r2)) [v3]))))) ∧ ((w0.1 14) = 0 → (∃ r4 : Int, ∃ v5 : ab_Ob, ab_Calls d 0 0 mX9_refused [ab_O 0, ab_I 1] [(ab_pf w0 0 0)] (some (ab_I r4)) [v5] ∧ Post (some (ab_I r4)) [v5])))) :
    ab_J x 0 [some (ab_O 0), some (ab_I a1), none] [] [w0] kc ks := ab_go hx kX9_move.2 19 [(37, [true, true, true]), (79, [true, true, true])] 0 h
set_option maxRecDepth 100000 in
theorem vX9_move_37 {x : ab_Cx} {d mc ms : Nat} {Post : Option ab_V → List ab_Ob → Prop} (hx : ab_At x mX9_move d mc ms Post) (l1 l2 : Int) (w0 : ab_Ob) (kc ks : Nat)
    (h : (((w0.1 8) ≤ l2 → (∃ v1 : ab_Ob, ab_Calls d 0 0 mX9_remembers [ab_O 0] [w0] none [v1] ∧ ab_J x 79 [some (ab_O 0), some (ab_I l1), some (ab_I 0)] [] [v1] kc ks)) ∧ (¬ (w0.1 8) ≤ l2 → (∃ r2 : Int, ab_Calls d 0 0 mX9_pitchOf [ab_O 0, ab_I l2] [w0] (some (ab_I r2)) [w0] ∧ ((-2147483648 ≤ r2 + l1 ∧ r2 + l1 ≤ 2147483647) ∧ (∃ r3 : Int, ab_Calls d 0 0 mX9_in [ab_I (r2 + l1), ab_I 0, ab_I 99] [] (some (ab_I r3)) [] ∧ ((¬ r3 = 0 → ((-2147483648 ≤ l2 + 1 ∧ l2 + 1 ≤ 2147483647) ∧ ab_J x 37 [some (ab_O 0), some (ab_I l1), some (ab_I (l2 + 1))] [] [w0] kc ks)) ∧ (r3 = 0 → (∃ r4 : Int, ∃ v5 : ab_Ob, ab_Calls d 0 0 mX9_refused [ab_O 0, ab_I 5] [w0] (some (ab_I r4)) [v5] ∧ Post (some (ab_I r4)) [v5]))))))))) :
    ab_J x 37 [some (ab_O 0), some (ab_I l1), some (ab_I l2)] [] [w0] kc ks := ab_go hx kX9_move.2 21 [(37, [true, true, true]), (79, [true, true, true])] 37 h
set_option maxRecDepth 100000 in
theorem vX9_move_79 {x : ab_Cx} {d mc ms : Nat} {Post : Option ab_V → List ab_Ob → Prop} (hx : ab_At x mX9_move d mc ms Post) (l1 l2 : Int) (w0 : ab_Ob) (kc ks : Nat)
    (h : (((w0.1 8) ≤ l2 → (∃ v1 : ab_Ob, ab_Calls d 0 0 mX9_lays [ab_O 0] [w0] none [v1] ∧ ((-2147483648 ≤ (v1.1 8) - 1 ∧ (v1.1 8) - 1 ≤ 2147483647) ∧ ((-2147483648 ≤ (v1.1 8) - 1 ∧ (v1.1 8) - 1 ≤ 2147483647) ∧ (∃ r2 : Int, ab_Calls d 0 0 mX9_headOf [ab_O 0, ab_I 0, ab_I ((v1.1 8) - 1)] [v1] (some (ab_I r2)) [v1] ∧ (∃ r3 : Int, ab_Calls d 0 0 mX9_cube [ab_I 0, ab_I ((v1.1 8) - 1), ab_I r2] [] (some (ab_I r3)) [] ∧ ((0 ≤ r3 ∧ r3 < (v1.2 27).1) ∧ (∃ r4 : Int, ∃ v5 : ab_Ob, ab_Calls d 0 0 mX9_good [ab_O 0, ab_I ((v1.2 27).2 r3)] [v1] (some (ab_I r4)) [v5] ∧ Post (some (ab_I r4)) [v5])))))))) ∧ (¬ (w0.1 8) ≤ l2 → ((-2147483648 ≤ 0 + l2 ∧ 0 + l2 ≤ 2147483647) ∧ ((0 ≤ (0 + l2) ∧ (0 + l2) < (w0.2 3).1) ∧ ((-2147483648 ≤ ((w0.2 3).2 (0 + l2)) + l1 ∧ ((w0.2 3).2 (0 + l2)) + l1 ≤ 2147483647) ∧ ((0 ≤ (0 + l2) ∧ (0 + l2) < (w0.2 3).1) ∧ ((-2147483648 ≤ l2 + 1 ∧ l2 + 1 ≤ 2147483647) ∧ ab_J x 79 [some (ab_O 0), some (ab_I l1), some (ab_I (l2 + 1))] [] [(ab_pa w0 3 (0 + l2) (((w0.2 3).2 (0 + l2)) + l1))] kc ks)))))))) :
    ab_J x 79 [some (ab_O 0), some (ab_I l1), some (ab_I l2)] [] [w0] kc ks := ab_go hx kX9_move.2 29 [(37, [true, true, true]), (79, [true, true, true])] 79 h
def mX9_undo : ab_M := ((yX9_undo, cX9_undo, 2, (some .boolean)), ([9], [(0, 0)], [true], false, false, 0), (false, 9, 0))
def rX9_undo : List ab_R := [(0, .aload_n 0, 1, 0, 0, 0, [], none),
  (1, .iconst 0, 1, 0, 0, 0, [], none),
  (2, .putfield 100, 3, 9, 0, 0, [], none),
  (5, .aload_n 0, 1, 0, 0, 0, [], none),
  (6, .getfield 235, 3, 9, 14, 0, [], none),
  (9, .ifCond .eq 10, 3, 0, 0, 0, [19], none),
  (12, .aload_n 0, 1, 0, 0, 0, [], none),
  (13, .getfield 249, 3, 9, 9, 0, [], none),
  (16, .ifCond .ne 11, 3, 0, 0, 0, [27], none),
  (19, .aload_n 0, 1, 0, 0, 0, [], none),
  (20, .iconst 1, 1, 0, 0, 0, [], none),
  (21, .invokevirtual 229, 3, 0, 0, 0, [], some mX9_refused),
  (24, .pop, 1, 0, 0, 0, [], none),
  (25, .iconst 0, 1, 0, 0, 0, [], none),
  (26, .ireturn, 1, 0, 0, 0, [], none),
  (27, .aload_n 0, 1, 0, 0, 0, [], none),
  (28, .dup, 1, 0, 0, 0, [], none),
  (29, .getfield 249, 3, 9, 9, 0, [], none),
  (32, .iconst 1, 1, 0, 0, 0, [], none),
  (33, .isub, 1, 0, 0, 0, [], none),
  (34, .putfield 249, 3, 9, 9, 0, [], none),
  (37, .iconst 0, 1, 0, 0, 0, [], none),
  (38, .istore_n 1, 1, 0, 0, 0, [], none),
  (39, .iload_n 1, 1, 0, 0, 0, [], none),
  (40, .bipush 55, 2, 0, 0, 0, [], none),
  (42, .if_icmp .ge 29, 3, 0, 0, 0, [71], none),
  (45, .aload_n 0, 1, 0, 0, 0, [], none),
  (46, .getfield 13, 3, 9, 3, 0, [], none),
  (49, .iload_n 1, 1, 0, 0, 0, [], none),
  (50, .aload_n 0, 1, 0, 0, 0, [], none),
  (51, .getfield 20, 3, 9, 5, 0, [], none),
  (54, .bipush 55, 2, 0, 0, 0, [], none),
  (56, .aload_n 0, 1, 0, 0, 0, [], none),
  (57, .getfield 249, 3, 9, 9, 0, [], none),
  (60, .imul, 1, 0, 0, 0, [], none),
  (61, .iload_n 1, 1, 0, 0, 0, [], none),
  (62, .iadd, 1, 0, 0, 0, [], none),
  (63, .iaload, 1, 0, 0, 0, [], none),
  (64, .iastore, 1, 0, 0, 0, [], none),
  (65, .iinc 1 1, 3, 0, 0, 0, [], none),
  (68, .goto (-29), 3, 0, 0, 0, [39], none),
  (71, .aload_n 0, 1, 0, 0, 0, [], none),
  (72, .invokevirtual 252, 3, 0, 0, 0, [], some mX9_lays),
  (75, .aload_n 0, 1, 0, 0, 0, [], none),
  (76, .iconst 0, 1, 0, 0, 0, [], none),
  (77, .invokevirtual 255, 3, 0, 0, 0, [], some mX9_good),
  (80, .pop, 1, 0, 0, 0, [], none),
  (81, .iconst 1, 1, 0, 0, 0, [], none),
  (82, .ireturn, 1, 0, 0, 0, [], none)]
set_option maxRecDepth 100000 in
theorem kX9_undo : ab_def_ok mX9_undo rX9_undo := ⟨ab_mok_of 1781 110 1779 1780 (by decide +kernel), [0, 0, 1202, 0, 1216, 0, 0, 1211, 0, 0, 0, 1371, 0, 0, 0, 0, 0, 1211, 0, 0, 1211, 0, 0, 0, 0, 0, 0, 1205, 0, 0, 1207, 0, 0, 1211, 0, 0, 0, 0, 0, 0, 0, 0, 1452, 0, 0, 1519, 0, 0, 0], by decide +kernel⟩
set_option maxRecDepth 100000 in
theorem vX9_undo_0 {x : ab_Cx} {d mc ms : Nat} {Post : Option ab_V → List ab_Ob → Prop} (hx : ab_At x mX9_undo d mc ms Post) (w0 : ab_Ob) (kc ks : Nat)
    (h : (((w0.1 14) = 0 → (∃ r1 : Int, ∃ v2 : ab_Ob, ab_Calls d 0 0 mX9_refused [ab_O 0, ab_I 1] [(ab_pf w0 0 0)] (some (ab_I r1)) [v2] ∧ (((0 : Int) = 0 ∨ (0 : Int) = 1) ∧ Post (some (ab_I 0)) [v2]))) ∧ (¬ (w0.1 14) = 0 → ((¬ (w0.1 9) = 0 → ((-2147483648 ≤ (w0.1 9) - 1 ∧ (w0.1 9) - 1 ≤ 2147483647) ∧ ab_J x 39 [some (ab_O 0), some (ab_I 0)] [] [(ab_pf (ab_pf w0 0 0) 9 ((w0.1 9) - 1))] kc ks)) ∧ ((w0.1 9) = 0 → (∃ r3 : Int, ∃ v4 : ab_Ob, ab_Calls d 0 0 mX9_refused [ab_O 0, ab_I 1] [(ab_pf w0 0 0)] (some (ab_I r3)) [v4] ∧ (((0 : Int) = 0 ∨ (0 : Int) = 1) ∧ Post (some (ab_I 0)) [v4]))))))) :
    ab_J x 0 [some (ab_O 0), none] [] [w0] kc ks := ab_go hx kX9_undo.2 22 [(39, [true, true])] 0 h
set_option maxRecDepth 100000 in
theorem vX9_undo_39 {x : ab_Cx} {d mc ms : Nat} {Post : Option ab_V → List ab_Ob → Prop} (hx : ab_At x mX9_undo d mc ms Post) (l1 : Int) (w0 : ab_Ob) (kc ks : Nat)
    (h : ((55 ≤ l1 → (∃ v1 : ab_Ob, ab_Calls d 0 0 mX9_lays [ab_O 0] [w0] none [v1] ∧ (∃ r2 : Int, ∃ v3 : ab_Ob, ab_Calls d 0 0 mX9_good [ab_O 0, ab_I 0] [v1] (some (ab_I r2)) [v3] ∧ (((1 : Int) = 0 ∨ (1 : Int) = 1) ∧ Post (some (ab_I 1)) [v3])))) ∧ (¬ 55 ≤ l1 → ((-2147483648 ≤ 55 * (w0.1 9) ∧ 55 * (w0.1 9) ≤ 2147483647) ∧ ((-2147483648 ≤ (55 * (w0.1 9)) + l1 ∧ (55 * (w0.1 9)) + l1 ≤ 2147483647) ∧ ((0 ≤ ((55 * (w0.1 9)) + l1) ∧ ((55 * (w0.1 9)) + l1) < (w0.2 5).1) ∧ ((0 ≤ l1 ∧ l1 < (w0.2 3).1) ∧ ((-2147483648 ≤ l1 + 1 ∧ l1 + 1 ≤ 2147483647) ∧ ab_J x 39 [some (ab_O 0), some (ab_I (l1 + 1))] [] [(ab_pa w0 3 l1 ((w0.2 5).2 ((55 * (w0.1 9)) + l1)))] kc ks)))))))) :
    ab_J x 39 [some (ab_O 0), some (ab_I l1)] [] [w0] kc ks := ab_go hx kX9_undo.2 23 [(39, [true, true])] 39 h
def mX9_bare : ab_M := ((yX9_bare, cX9_bare, 4, (some .int)), ([9], [(0, 0)], [true], false, false, 0), (false, 9, 1))
def rX9_bare : List ab_R := [(0, .aload_n 0, 1, 0, 0, 0, [], none),
  (1, .iconst 0, 1, 0, 0, 0, [], none),
  (2, .putfield 100, 3, 9, 0, 0, [], none),
  (5, .iconst 0, 1, 0, 0, 0, [], none),
  (6, .istore_n 2, 1, 0, 0, 0, [], none),
  (7, .iconst 0, 1, 0, 0, 0, [], none),
  (8, .istore_n 3, 1, 0, 0, 0, [], none),
  (9, .aload_n 0, 1, 0, 0, 0, [], none),
  (10, .getfield 235, 3, 9, 14, 0, [], none),
  (13, .ifCond .eq 38, 3, 0, 0, 0, [51], none),
  (16, .iload_n 3, 1, 0, 0, 0, [], none),
  (17, .aload_n 0, 1, 0, 0, 0, [], none),
  (18, .getfield 246, 3, 9, 8, 0, [], none),
  (21, .if_icmp .ge 30, 3, 0, 0, 0, [51], none),
  (24, .aload_n 0, 1, 0, 0, 0, [], none),
  (25, .iload_n 3, 1, 0, 0, 0, [], none),
  (26, .invokevirtual 358, 3, 0, 0, 0, [], some mX9_underOne),
  (29, .ifCond .le 6, 3, 0, 0, 0, [35], none),
  (32, .goto 13, 3, 0, 0, 0, [45], none),
  (35, .iload_n 2, 1, 0, 0, 0, [], none),
  (36, .iload_n 1, 1, 0, 0, 0, [], none),
  (37, .if_icmp .ne 5, 3, 0, 0, 0, [42], none),
  (40, .iload_n 3, 1, 0, 0, 0, [], none),
  (41, .ireturn, 1, 0, 0, 0, [], none),
  (42, .iinc 2 1, 3, 0, 0, 0, [], none),
  (45, .iinc 3 1, 3, 0, 0, 0, [], none),
  (48, .goto (-39), 3, 0, 0, 0, [9], none),
  (51, .aload_n 0, 1, 0, 0, 0, [], none),
  (52, .iconst 1, 1, 0, 0, 0, [], none),
  (53, .putfield 100, 3, 9, 0, 0, [], none),
  (56, .iconst 0, 1, 0, 0, 0, [], none),
  (57, .ireturn, 1, 0, 0, 0, [], none)]
set_option maxRecDepth 100000 in
theorem kX9_bare : ab_def_ok mX9_bare rX9_bare := ⟨ab_mok_of 1785 110 1783 1784 (by decide +kernel), [0, 0, 1202, 0, 0, 0, 0, 0, 1216, 0, 0, 0, 1210, 0, 0, 0, 1658, 0, 0, 0, 0, 0, 0, 0, 0, 0, 0, 0, 0, 1202, 0, 0], by decide +kernel⟩
set_option maxRecDepth 100000 in
theorem vX9_bare_0 {x : ab_Cx} {d mc ms : Nat} {Post : Option ab_V → List ab_Ob → Prop} (hx : ab_At x mX9_bare d mc ms Post) (a1 : Int) (w0 : ab_Ob) (kc ks : Nat)
    (h : ab_J x 9 [some (ab_O 0), some (ab_I a1), some (ab_I 0), some (ab_I 0)] [] [(ab_pf w0 0 0)] kc ks) :
    ab_J x 0 [some (ab_O 0), some (ab_I a1), none, none] [] [w0] kc ks := ab_go hx kX9_bare.2 12 [(9, [true, true, true, true])] 0 h
set_option maxRecDepth 100000 in
theorem vX9_bare_9 {x : ab_Cx} {d mc ms : Nat} {Post : Option ab_V → List ab_Ob → Prop} (hx : ab_At x mX9_bare d mc ms Post) (l1 l2 l3 : Int) (w0 : ab_Ob) (kc ks : Nat)
    (h : (((w0.1 14) = 0 → Post (some (ab_I 0)) [(ab_pf w0 0 1)]) ∧ (¬ (w0.1 14) = 0 → (((w0.1 8) ≤ l3 → Post (some (ab_I 0)) [(ab_pf w0 0 1)]) ∧ (¬ (w0.1 8) ≤ l3 → (∃ r1 : Int, ab_Calls d 0 0 mX9_underOne [ab_O 0, ab_I l3] [w0] (some (ab_I r1)) [w0] ∧ ((r1 ≤ 0 → ((¬ l2 = l1 → ((-2147483648 ≤ l2 + 1 ∧ l2 + 1 ≤ 2147483647) ∧ ((-2147483648 ≤ l3 + 1 ∧ l3 + 1 ≤ 2147483647) ∧ ab_J x 9 [some (ab_O 0), some (ab_I l1), some (ab_I (l2 + 1)), some (ab_I (l3 + 1))] [] [w0] kc ks))) ∧ (l2 = l1 → Post (some (ab_I l3)) [w0]))) ∧ (¬ r1 ≤ 0 → ((-2147483648 ≤ l3 + 1 ∧ l3 + 1 ≤ 2147483647) ∧ ab_J x 9 [some (ab_O 0), some (ab_I l1), some (ab_I l2), some (ab_I (l3 + 1))] [] [w0] kc ks))))))))) :
    ab_J x 9 [some (ab_O 0), some (ab_I l1), some (ab_I l2), some (ab_I l3)] [] [w0] kc ks := ab_go hx kX9_bare.2 22 [(9, [true, true, true, true])] 9 h
def mX9_size : ab_M := ((yX9_size, cX9_size, 2, (some .int)), ([9], [(0, 0)], [true], false, false, 0), (false, 9, 1))
def rX9_size : List ab_R := [(0, .aload_n 0, 1, 0, 0, 0, [], none),
  (1, .iconst 0, 1, 0, 0, 0, [], none),
  (2, .putfield 100, 3, 9, 0, 0, [], none),
  (5, .iload_n 1, 1, 0, 0, 0, [], none),
  (6, .ifCond .ne 10, 3, 0, 0, 0, [16], none),
  (9, .aload_n 0, 1, 0, 0, 0, [], none),
  (10, .getfield 226, 3, 9, 17, 0, [], none),
  (13, .goto 54, 3, 0, 0, 0, [67], none),
  (16, .iload_n 1, 1, 0, 0, 0, [], none),
  (17, .iconst 1, 1, 0, 0, 0, [], none),
  (18, .if_icmp .ne 21, 3, 0, 0, 0, [39], none),
  (21, .aload_n 0, 1, 0, 0, 0, [], none),
  (22, .getfield 235, 3, 9, 14, 0, [], none),
  (25, .ifCond .eq 10, 3, 0, 0, 0, [35], none),
  (28, .aload_n 0, 1, 0, 0, 0, [], none),
  (29, .getfield 249, 3, 9, 9, 0, [], none),
  (32, .goto 35, 3, 0, 0, 0, [67], none),
  (35, .iconst 0, 1, 0, 0, 0, [], none),
  (36, .goto 31, 3, 0, 0, 0, [67], none),
  (39, .iload_n 1, 1, 0, 0, 0, [], none),
  (40, .iconst 2, 1, 0, 0, 0, [], none),
  (41, .if_icmp .ne 25, 3, 0, 0, 0, [66], none),
  (44, .aload_n 0, 1, 0, 0, 0, [], none),
  (45, .getfield 235, 3, 9, 14, 0, [], none),
  (48, .ifCond .eq 14, 3, 0, 0, 0, [62], none),
  (51, .aload_n 0, 1, 0, 0, 0, [], none),
  (52, .getfield 239, 3, 9, 15, 0, [], none),
  (55, .ifCond .eq 7, 3, 0, 0, 0, [62], none),
  (58, .iconst 1, 1, 0, 0, 0, [], none),
  (59, .goto 8, 3, 0, 0, 0, [67], none),
  (62, .iconst 0, 1, 0, 0, 0, [], none),
  (63, .goto 4, 3, 0, 0, 0, [67], none),
  (66, .iconst (-1), 1, 0, 0, 0, [], none),
  (67, .ireturn, 1, 0, 0, 0, [], none)]
set_option maxRecDepth 100000 in
theorem kX9_size : ab_def_ok mX9_size rX9_size := ⟨ab_mok_of 1789 110 1787 1788 (by decide +kernel), [0, 0, 1202, 0, 0, 0, 1219, 0, 0, 0, 0, 0, 1216, 0, 0, 1211, 0, 0, 0, 0, 0, 0, 0, 1216, 0, 0, 1217, 0, 0, 0, 0, 0, 0, 0], by decide +kernel⟩
set_option maxRecDepth 100000 in
theorem vX9_size_0 {x : ab_Cx} {d mc ms : Nat} {Post : Option ab_V → List ab_Ob → Prop} (hx : ab_At x mX9_size d mc ms Post) (a1 : Int) (w0 : ab_Ob) (kc ks : Nat)
    (h : ((¬ a1 = 0 → ((¬ a1 = 1 → ((¬ a1 = 2 → Post (some (ab_I (-1))) [(ab_pf w0 0 0)]) ∧ (a1 = 2 → (((w0.1 14) = 0 → Post (some (ab_I 0)) [(ab_pf w0 0 0)]) ∧ (¬ (w0.1 14) = 0 → (((w0.1 15) = 0 → Post (some (ab_I 0)) [(ab_pf w0 0 0)]) ∧ (¬ (w0.1 15) = 0 → Post (some (ab_I 1)) [(ab_pf w0 0 0)]))))))) ∧ (a1 = 1 → (((w0.1 14) = 0 → Post (some (ab_I 0)) [(ab_pf w0 0 0)]) ∧ (¬ (w0.1 14) = 0 → Post (some (ab_I (w0.1 9))) [(ab_pf w0 0 0)]))))) ∧ (a1 = 0 → Post (some (ab_I (w0.1 17))) [(ab_pf w0 0 0)]))) :
    ab_J x 0 [some (ab_O 0), some (ab_I a1)] [] [w0] kc ks := ab_go hx kX9_size.2 24 [] 0 h
def mX9_trouble : ab_M := ((yX9_trouble, cX9_trouble, 1, (some .int)), ([9], [(0, 0)], [true], false, false, 0), (false, 9, 0))
def rX9_trouble : List ab_R := [(0, .aload_n 0, 1, 0, 0, 0, [], none),
  (1, .iconst 0, 1, 0, 0, 0, [], none),
  (2, .putfield 100, 3, 9, 0, 0, [], none),
  (5, .aload_n 0, 1, 0, 0, 0, [], none),
  (6, .getfield 103, 3, 9, 1, 0, [], none),
  (9, .ireturn, 1, 0, 0, 0, [], none)]
set_option maxRecDepth 100000 in
theorem kX9_trouble : ab_def_ok mX9_trouble rX9_trouble := ⟨ab_mok_of 1793 110 1791 1792 (by decide +kernel), [0, 0, 1202, 0, 1203, 0], by decide +kernel⟩
set_option maxRecDepth 100000 in
theorem vX9_trouble_0 {x : ab_Cx} {d mc ms : Nat} {Post : Option ab_V → List ab_Ob → Prop} (hx : ab_At x mX9_trouble d mc ms Post) (w0 : ab_Ob) (kc ks : Nat)
    (h : Post (some (ab_I (w0.1 1))) [(ab_pf w0 0 0)]) :
    ab_J x 0 [some (ab_O 0)] [] [w0] kc ks := ab_go hx kX9_trouble.2 10 [] 0 h
