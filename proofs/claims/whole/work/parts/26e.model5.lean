def mX9_levelNote : ab_M := ((yX9_levelNote, cX9_levelNote, 5, (some .int)), ([9], [(0, 0)], [true], false, false, 0), (false, 9, 3))
def rX9_levelNote : List ab_R := [(0, .aload_n 0, 1, 0, 0, 0, [], none),
  (1, .iconst 0, 1, 0, 0, 0, [], none),
  (2, .putfield 100, 3, 9, 0, 0, [], none),
  (5, .aload_n 0, 1, 0, 0, 0, [], none),
  (6, .getfield 235, 3, 9, 14, 0, [], none),
  (9, .ifCond .ne 9, 3, 0, 0, 0, [18], none),
  (12, .aload_n 0, 1, 0, 0, 0, [], none),
  (13, .iconst 1, 1, 0, 0, 0, [], none),
  (14, .invokevirtual 229, 3, 0, 0, 0, [], some mX9_refused),
  (17, .ireturn, 1, 0, 0, 0, [], none),
  (18, .aload_n 0, 1, 0, 0, 0, [], none),
  (19, .iload_n 1, 1, 0, 0, 0, [], none),
  (20, .invokevirtual 352, 3, 0, 0, 0, [], some mX9_isLevel),
  (23, .ifCond .ne 9, 3, 0, 0, 0, [32], none),
  (26, .aload_n 0, 1, 0, 0, 0, [], none),
  (27, .iconst 2, 1, 0, 0, 0, [], none),
  (28, .invokevirtual 229, 3, 0, 0, 0, [], some mX9_refused),
  (31, .ireturn, 1, 0, 0, 0, [], none),
  (32, .iload_n 2, 1, 0, 0, 0, [], none),
  (33, .iconst 0, 1, 0, 0, 0, [], none),
  (34, .aload_n 0, 1, 0, 0, 0, [], none),
  (35, .iload_n 1, 1, 0, 0, 0, [], none),
  (36, .iconst (-1), 1, 0, 0, 0, [], none),
  (37, .invokevirtual 355, 3, 0, 0, 0, [], some mX9_levelAt),
  (40, .iconst 1, 1, 0, 0, 0, [], none),
  (41, .isub, 1, 0, 0, 0, [], none),
  (42, .invokestatic 125, 3, 0, 0, 0, [], some mX9_in),
  (45, .ifCond .ne 9, 3, 0, 0, 0, [54], none),
  (48, .aload_n 0, 1, 0, 0, 0, [], none),
  (49, .iconst 1, 1, 0, 0, 0, [], none),
  (50, .invokevirtual 229, 3, 0, 0, 0, [], some mX9_refused),
  (53, .ireturn, 1, 0, 0, 0, [], none),
  (54, .aload_n 0, 1, 0, 0, 0, [], none),
  (55, .iload_n 1, 1, 0, 0, 0, [], none),
  (56, .iload_n 2, 1, 0, 0, 0, [], none),
  (57, .invokevirtual 355, 3, 0, 0, 0, [], some mX9_levelAt),
  (60, .istore 4, 2, 0, 0, 0, [], none),
  (62, .iload_n 3, 1, 0, 0, 0, [], none),
  (63, .tableswitch 83 0 2 #[25, 37, 53], 25, 0, 0, 0, [146, 88, 100, 116], none),
  (88, .aload_n 0, 1, 0, 0, 0, [], none),
  (89, .aload_n 0, 1, 0, 0, 0, [], none),
  (90, .getfield 52, 3, 9, 33, 0, [], none),
  (93, .iload 4, 2, 0, 0, 0, [], none),
  (95, .iaload, 1, 0, 0, 0, [], none),
  (96, .invokevirtual 255, 3, 0, 0, 0, [], some mX9_good),
  (99, .ireturn, 1, 0, 0, 0, [], none),
  (100, .aload_n 0, 1, 0, 0, 0, [], none),
  (101, .aload_n 0, 1, 0, 0, 0, [], none),
  (102, .aload_n 0, 1, 0, 0, 0, [], none),
  (103, .getfield 46, 3, 9, 31, 0, [], none),
  (106, .iload 4, 2, 0, 0, 0, [], none),
  (108, .iaload, 1, 0, 0, 0, [], none),
  (109, .invokevirtual 261, 3, 0, 0, 0, [], some mX9_beginOf),
  (112, .invokevirtual 255, 3, 0, 0, 0, [], some mX9_good),
  (115, .ireturn, 1, 0, 0, 0, [], none),
  (116, .aload_n 0, 1, 0, 0, 0, [], none),
  (117, .aload_n 0, 1, 0, 0, 0, [], none),
  (118, .aload_n 0, 1, 0, 0, 0, [], none),
  (119, .getfield 49, 3, 9, 32, 0, [], none),
  (122, .iload 4, 2, 0, 0, 0, [], none),
  (124, .iaload, 1, 0, 0, 0, [], none),
  (125, .iconst 1, 1, 0, 0, 0, [], none),
  (126, .iadd, 1, 0, 0, 0, [], none),
  (127, .invokevirtual 261, 3, 0, 0, 0, [], some mX9_beginOf),
  (130, .aload_n 0, 1, 0, 0, 0, [], none),
  (131, .aload_n 0, 1, 0, 0, 0, [], none),
  (132, .getfield 46, 3, 9, 31, 0, [], none),
  (135, .iload 4, 2, 0, 0, 0, [], none),
  (137, .iaload, 1, 0, 0, 0, [], none),
  (138, .invokevirtual 261, 3, 0, 0, 0, [], some mX9_beginOf),
  (141, .isub, 1, 0, 0, 0, [], none),
  (142, .invokevirtual 255, 3, 0, 0, 0, [], some mX9_good),
  (145, .ireturn, 1, 0, 0, 0, [], none),
  (146, .aload_n 0, 1, 0, 0, 0, [], none),
  (147, .iconst 1, 1, 0, 0, 0, [], none),
  (148, .invokevirtual 229, 3, 0, 0, 0, [], some mX9_refused),
  (151, .ireturn, 1, 0, 0, 0, [], none)]
set_option maxRecDepth 100000 in
theorem kX9_levelNote : ab_def_ok mX9_levelNote rX9_levelNote := ⟨ab_mok_of 1635 108 1633 1634 (by decide +kernel), [0, 0, 1192, 0, 1206, 0, 0, 0, 1361, 0, 0, 0, 1620, 0, 0, 0, 1361, 0, 0, 0, 0, 0, 0, 1624, 0, 0, 1377, 0, 0, 0, 1361, 0, 0, 0, 0, 1624, 0, 0, 0, 0, 0, 1225, 0, 0, 1509, 0, 0, 0, 0, 1223, 0, 0, 1450, 1509, 0, 0, 0, 0, 1224, 0, 0, 0, 0, 1450, 0, 0, 1223, 0, 0, 1450, 0, 1509, 0, 0, 0, 1361, 0], by decide +kernel⟩
set_option maxRecDepth 100000 in
theorem vX9_levelNote_0 {x : ab_Cx} {d mc ms : Nat} {Post : Option ab_V → List ab_Ob → Prop} (hx : ab_At x mX9_levelNote d mc ms Post) (a1 a2 a3 : Int) (w0 : ab_Ob) (kc ks : Nat)
    (h : ((¬ (w0.1 14) = 0 → (∃ Q1 : Option ab_V → List ab_Ob → Prop, ab_Ct d 0 0 mX9_isLevel [ab_O 0, ab_I a1] [(ab_pf w0 0 0)] Q1 ∧ (∀ r2 : Int, Q1 (some (ab_I r2)) [(ab_pf w0 0 0)] → ((¬ r2 = 0 → (∃ Q3 : Option ab_V → List ab_Ob → Prop, ab_Ct d 0 0 mX9_levelAt [ab_O 0, ab_I a1, ab_I (-1)] [(ab_pf w0 0 0)] Q3 ∧ (∀ r4 : Int, Q3 (some (ab_I r4)) [(ab_pf w0 0 0)] → ((-2147483648 ≤ r4 - 1 ∧ r4 - 1 ≤ 2147483647) ∧ (∃ Q5 : Option ab_V → List ab_Ob → Prop, ab_Ct d 0 0 mX9_in [ab_I a2, ab_I 0, ab_I (r4 - 1)] [] Q5 ∧ (∀ r6 : Int, Q5 (some (ab_I r6)) [] → ((¬ r6 = 0 → (∃ Q7 : Option ab_V → List ab_Ob → Prop, ab_Ct d 0 0 mX9_levelAt [ab_O 0, ab_I a1, ab_I a2] [(ab_pf w0 0 0)] Q7 ∧ (∀ r8 : Int, Q7 (some (ab_I r8)) [(ab_pf w0 0 0)] → ((a3 < 0 ∨ 2 < a3 → (∃ Q24 : Option ab_V → List ab_Ob → Prop, ab_Ct d 0 0 mX9_refused [ab_O 0, ab_I 1] [(ab_pf w0 0 0)] Q24 ∧ (∀ r25 : Int, ∀ v26 : ab_Ob, Q24 (some (ab_I r25)) [v26] → Post (some (ab_I r25)) [v26]))) ∧ ((a3 = 0 → ((0 ≤ r8 ∧ r8 < (w0.2 33).1) ∧ (∃ Q21 : Option ab_V → List ab_Ob → Prop, ab_Ct d 0 0 mX9_good [ab_O 0, ab_I ((w0.2 33).2 r8)] [(ab_pf w0 0 0)] Q21 ∧ (∀ r22 : Int, ∀ v23 : ab_Ob, Q21 (some (ab_I r22)) [v23] → Post (some (ab_I r22)) [v23])))) ∧ ((a3 = 1 → ((0 ≤ r8 ∧ r8 < (w0.2 31).1) ∧ (∃ Q16 : Option ab_V → List ab_Ob → Prop, ab_Ct d 0 0 mX9_beginOf [ab_O 0, ab_I ((w0.2 31).2 r8)] [(ab_pf w0 0 0)] Q16 ∧ (∀ r17 : Int, Q16 (some (ab_I r17)) [(ab_pf w0 0 0)] → (∃ Q18 : Option ab_V → List ab_Ob → Prop, ab_Ct d 0 0 mX9_good [ab_O 0, ab_I r17] [(ab_pf w0 0 0)] Q18 ∧ (∀ r19 : Int, ∀ v20 : ab_Ob, Q18 (some (ab_I r19)) [v20] → Post (some (ab_I r19)) [v20])))))) ∧ ((a3 = 2 → ((0 ≤ r8 ∧ r8 < (w0.2 32).1) ∧ ((-2147483648 ≤ ((w0.2 32).2 r8) + 1 ∧ ((w0.2 32).2 r8) + 1 ≤ 2147483647) ∧ (∃ Q9 : Option ab_V → List ab_Ob → Prop, ab_Ct d 0 0 mX9_beginOf [ab_O 0, ab_I (((w0.2 32).2 r8) + 1)] [(ab_pf w0 0 0)] Q9 ∧ (∀ r10 : Int, Q9 (some (ab_I r10)) [(ab_pf w0 0 0)] → ((0 ≤ r8 ∧ r8 < (w0.2 31).1) ∧ (∃ Q11 : Option ab_V → List ab_Ob → Prop, ab_Ct d 0 0 mX9_beginOf [ab_O 0, ab_I ((w0.2 31).2 r8)] [(ab_pf w0 0 0)] Q11 ∧ (∀ r12 : Int, Q11 (some (ab_I r12)) [(ab_pf w0 0 0)] → ((-2147483648 ≤ r10 - r12 ∧ r10 - r12 ≤ 2147483647) ∧ (∃ Q13 : Option ab_V → List ab_Ob → Prop, ab_Ct d 0 0 mX9_good [ab_O 0, ab_I (r10 - r12)] [(ab_pf w0 0 0)] Q13 ∧ (∀ r14 : Int, ∀ v15 : ab_Ob, Q13 (some (ab_I r14)) [v15] → Post (some (ab_I r14)) [v15]))))))))))) ∧ True))))))) ∧ (r6 = 0 → (∃ Q27 : Option ab_V → List ab_Ob → Prop, ab_Ct d 0 0 mX9_refused [ab_O 0, ab_I 1] [(ab_pf w0 0 0)] Q27 ∧ (∀ r28 : Int, ∀ v29 : ab_Ob, Q27 (some (ab_I r28)) [v29] → Post (some (ab_I r28)) [v29])))))))))) ∧ (r2 = 0 → (∃ Q30 : Option ab_V → List ab_Ob → Prop, ab_Ct d 0 0 mX9_refused [ab_O 0, ab_I 2] [(ab_pf w0 0 0)] Q30 ∧ (∀ r31 : Int, ∀ v32 : ab_Ob, Q30 (some (ab_I r31)) [v32] → Post (some (ab_I r31)) [v32]))))))) ∧ ((w0.1 14) = 0 → (∃ Q33 : Option ab_V → List ab_Ob → Prop, ab_Ct d 0 0 mX9_refused [ab_O 0, ab_I 1] [(ab_pf w0 0 0)] Q33 ∧ (∀ r34 : Int, ∀ v35 : ab_Ob, Q33 (some (ab_I r34)) [v35] → Post (some (ab_I r34)) [v35]))))) :
    ab_J x 0 [some (ab_O 0), some (ab_I a1), some (ab_I a2), some (ab_I a3), none] [] [w0] kc ks := ab_go hx kX9_levelNote.2 49 [] 0 h
def mX9_path : ab_M := ((yX9_path, cX9_path, 5, (some .int)), ([9], [(0, 0)], [true], false, false, 0), (false, 9, 1))
def rX9_path : List ab_R := [(0, .aload_n 0, 1, 0, 0, 0, [], none),
  (1, .iconst 0, 1, 0, 0, 0, [], none),
  (2, .putfield 100, 3, 9, 0, 0, [], none),
  (5, .aload_n 0, 1, 0, 0, 0, [], none),
  (6, .getfield 235, 3, 9, 14, 0, [], none),
  (9, .ifCond .ne 9, 3, 0, 0, 0, [18], none),
  (12, .aload_n 0, 1, 0, 0, 0, [], none),
  (13, .iconst 1, 1, 0, 0, 0, [], none),
  (14, .invokevirtual 229, 3, 0, 0, 0, [], some mX9_refused),
  (17, .ireturn, 1, 0, 0, 0, [], none),
  (18, .aload_n 0, 1, 0, 0, 0, [], none),
  (19, .iload_n 1, 1, 0, 0, 0, [], none),
  (20, .invokevirtual 352, 3, 0, 0, 0, [], some mX9_isLevel),
  (23, .ifCond .ne 9, 3, 0, 0, 0, [32], none),
  (26, .aload_n 0, 1, 0, 0, 0, [], none),
  (27, .iconst 2, 1, 0, 0, 0, [], none),
  (28, .invokevirtual 229, 3, 0, 0, 0, [], some mX9_refused),
  (31, .ireturn, 1, 0, 0, 0, [], none),
  (32, .iconst 0, 1, 0, 0, 0, [], none),
  (33, .istore_n 2, 1, 0, 0, 0, [], none),
  (34, .aload_n 0, 1, 0, 0, 0, [], none),
  (35, .iload_n 1, 1, 0, 0, 0, [], none),
  (36, .iconst (-1), 1, 0, 0, 0, [], none),
  (37, .invokevirtual 355, 3, 0, 0, 0, [], some mX9_levelAt),
  (40, .istore_n 3, 1, 0, 0, 0, [], none),
  (41, .iconst 1, 1, 0, 0, 0, [], none),
  (42, .istore 4, 2, 0, 0, 0, [], none),
  (44, .iload 4, 2, 0, 0, 0, [], none),
  (46, .iload_n 3, 1, 0, 0, 0, [], none),
  (47, .if_icmp .ge 49, 3, 0, 0, 0, [96], none),
  (50, .iload_n 2, 1, 0, 0, 0, [], none),
  (51, .aload_n 0, 1, 0, 0, 0, [], none),
  (52, .aload_n 0, 1, 0, 0, 0, [], none),
  (53, .getfield 52, 3, 9, 33, 0, [], none),
  (56, .aload_n 0, 1, 0, 0, 0, [], none),
  (57, .iload_n 1, 1, 0, 0, 0, [], none),
  (58, .iload 4, 2, 0, 0, 0, [], none),
  (60, .invokevirtual 355, 3, 0, 0, 0, [], some mX9_levelAt),
  (63, .iaload, 1, 0, 0, 0, [], none),
  (64, .invokevirtual 264, 3, 0, 0, 0, [], some mX9_pitchOf),
  (67, .aload_n 0, 1, 0, 0, 0, [], none),
  (68, .aload_n 0, 1, 0, 0, 0, [], none),
  (69, .getfield 52, 3, 9, 33, 0, [], none),
  (72, .aload_n 0, 1, 0, 0, 0, [], none),
  (73, .iload_n 1, 1, 0, 0, 0, [], none),
  (74, .iload 4, 2, 0, 0, 0, [], none),
  (76, .iconst 1, 1, 0, 0, 0, [], none),
  (77, .isub, 1, 0, 0, 0, [], none),
  (78, .invokevirtual 355, 3, 0, 0, 0, [], some mX9_levelAt),
  (81, .iaload, 1, 0, 0, 0, [], none),
  (82, .invokevirtual 264, 3, 0, 0, 0, [], some mX9_pitchOf),
  (85, .invokestatic 270, 3, 0, 0, 0, [], some mX9_apart),
  (88, .iadd, 1, 0, 0, 0, [], none),
  (89, .istore_n 2, 1, 0, 0, 0, [], none),
  (90, .iinc 4 1, 3, 0, 0, 0, [], none),
  (93, .goto (-49), 3, 0, 0, 0, [44], none),
  (96, .aload_n 0, 1, 0, 0, 0, [], none),
  (97, .iload_n 2, 1, 0, 0, 0, [], none),
  (98, .invokevirtual 255, 3, 0, 0, 0, [], some mX9_good),
  (101, .ireturn, 1, 0, 0, 0, [], none)]
set_option maxRecDepth 100000 in
theorem kX9_path : ab_def_ok mX9_path rX9_path := ⟨ab_mok_of 1639 108 1637 1638 (by decide +kernel), [0, 0, 1192, 0, 1206, 0, 0, 0, 1361, 0, 0, 0, 1620, 0, 0, 0, 1361, 0, 0, 0, 0, 0, 0, 1624, 0, 0, 0, 0, 0, 0, 0, 0, 0, 1225, 0, 0, 0, 1624, 0, 1462, 0, 0, 1225, 0, 0, 0, 0, 0, 1624, 0, 1462, 1493, 0, 0, 0, 0, 0, 0, 1509, 0], by decide +kernel⟩
set_option maxRecDepth 100000 in
theorem vX9_path_0 {x : ab_Cx} {d mc ms : Nat} {Post : Option ab_V → List ab_Ob → Prop} (hx : ab_At x mX9_path d mc ms Post) (a1 : Int) (w0 : ab_Ob) (kc ks : Nat)
    (h : ((¬ (w0.1 14) = 0 → (∃ Q1 : Option ab_V → List ab_Ob → Prop, ab_Ct d 0 0 mX9_isLevel [ab_O 0, ab_I a1] [(ab_pf w0 0 0)] Q1 ∧ (∀ r2 : Int, Q1 (some (ab_I r2)) [(ab_pf w0 0 0)] → ((¬ r2 = 0 → (∃ Q3 : Option ab_V → List ab_Ob → Prop, ab_Ct d 0 0 mX9_levelAt [ab_O 0, ab_I a1, ab_I (-1)] [(ab_pf w0 0 0)] Q3 ∧ (∀ r4 : Int, Q3 (some (ab_I r4)) [(ab_pf w0 0 0)] → ab_J x 44 [some (ab_O 0), some (ab_I a1), some (ab_I 0), some (ab_I r4), some (ab_I 1)] [] [(ab_pf w0 0 0)] kc ks))) ∧ (r2 = 0 → (∃ Q5 : Option ab_V → List ab_Ob → Prop, ab_Ct d 0 0 mX9_refused [ab_O 0, ab_I 2] [(ab_pf w0 0 0)] Q5 ∧ (∀ r6 : Int, ∀ v7 : ab_Ob, Q5 (some (ab_I r6)) [v7] → Post (some (ab_I r6)) [v7]))))))) ∧ ((w0.1 14) = 0 → (∃ Q8 : Option ab_V → List ab_Ob → Prop, ab_Ct d 0 0 mX9_refused [ab_O 0, ab_I 1] [(ab_pf w0 0 0)] Q8 ∧ (∀ r9 : Int, ∀ v10 : ab_Ob, Q8 (some (ab_I r9)) [v10] → Post (some (ab_I r9)) [v10]))))) :
    ab_J x 0 [some (ab_O 0), some (ab_I a1), none, none, none] [] [w0] kc ks := ab_go hx kX9_path.2 24 [(44, [true, true, true, true, true])] 0 h
set_option maxRecDepth 100000 in
theorem vX9_path_44 {x : ab_Cx} {d mc ms : Nat} {Post : Option ab_V → List ab_Ob → Prop} (hx : ab_At x mX9_path d mc ms Post) (l1 l2 l3 l4 : Int) (w0 : ab_Ob) (kc ks : Nat)
    (h : ((l3 ≤ l4 → (∃ Q1 : Option ab_V → List ab_Ob → Prop, ab_Ct d 0 0 mX9_good [ab_O 0, ab_I l2] [w0] Q1 ∧ (∀ r2 : Int, ∀ v3 : ab_Ob, Q1 (some (ab_I r2)) [v3] → Post (some (ab_I r2)) [v3]))) ∧ (¬ l3 ≤ l4 → (∃ Q4 : Option ab_V → List ab_Ob → Prop, ab_Ct d 0 0 mX9_levelAt [ab_O 0, ab_I l1, ab_I l4] [w0] Q4 ∧ (∀ r5 : Int, Q4 (some (ab_I r5)) [w0] → ((0 ≤ r5 ∧ r5 < (w0.2 33).1) ∧ (∃ Q6 : Option ab_V → List ab_Ob → Prop, ab_Ct d 0 0 mX9_pitchOf [ab_O 0, ab_I ((w0.2 33).2 r5)] [w0] Q6 ∧ (∀ r7 : Int, Q6 (some (ab_I r7)) [w0] → ((-2147483648 ≤ l4 - 1 ∧ l4 - 1 ≤ 2147483647) ∧ (∃ Q8 : Option ab_V → List ab_Ob → Prop, ab_Ct d 0 0 mX9_levelAt [ab_O 0, ab_I l1, ab_I (l4 - 1)] [w0] Q8 ∧ (∀ r9 : Int, Q8 (some (ab_I r9)) [w0] → ((0 ≤ r9 ∧ r9 < (w0.2 33).1) ∧ (∃ Q10 : Option ab_V → List ab_Ob → Prop, ab_Ct d 0 0 mX9_pitchOf [ab_O 0, ab_I ((w0.2 33).2 r9)] [w0] Q10 ∧ (∀ r11 : Int, Q10 (some (ab_I r11)) [w0] → (∃ Q12 : Option ab_V → List ab_Ob → Prop, ab_Ct d 0 0 mX9_apart [ab_I r7, ab_I r11] [] Q12 ∧ (∀ r13 : Int, Q12 (some (ab_I r13)) [] → ((-2147483648 ≤ l2 + r13 ∧ l2 + r13 ≤ 2147483647) ∧ ((-2147483648 ≤ l4 + 1 ∧ l4 + 1 ≤ 2147483647) ∧ ab_J x 44 [some (ab_O 0), some (ab_I l1), some (ab_I (l2 + r13)), some (ab_I l3), some (ab_I (l4 + 1))] [] [w0] kc ks)))))))))))))))))) :
    ab_J x 44 [some (ab_O 0), some (ab_I l1), some (ab_I l2), some (ab_I l3), some (ab_I l4)] [] [w0] kc ks := ab_go hx kX9_path.2 34 [(44, [true, true, true, true, true])] 44 h
def mX9_over : ab_M := ((yX9_over, cX9_over, 6, (some .int)), ([9], [(0, 0)], [true], false, false, 0), (false, 9, 2))
def rX9_over : List ab_R := [(0, .aload_n 0, 1, 0, 0, 0, [], none),
  (1, .iconst 0, 1, 0, 0, 0, [], none),
  (2, .putfield 100, 3, 9, 0, 0, [], none),
  (5, .aload_n 0, 1, 0, 0, 0, [], none),
  (6, .iload_n 1, 1, 0, 0, 0, [], none),
  (7, .invokevirtual 307, 3, 0, 0, 0, [], some mX9_isNote),
  (10, .ifCond .eq 11, 3, 0, 0, 0, [21], none),
  (13, .aload_n 0, 1, 0, 0, 0, [], none),
  (14, .iload_n 2, 1, 0, 0, 0, [], none),
  (15, .invokevirtual 307, 3, 0, 0, 0, [], some mX9_isNote),
  (18, .ifCond .ne 9, 3, 0, 0, 0, [27], none),
  (21, .aload_n 0, 1, 0, 0, 0, [], none),
  (22, .iconst 1, 1, 0, 0, 0, [], none),
  (23, .invokevirtual 229, 3, 0, 0, 0, [], some mX9_refused),
  (26, .ireturn, 1, 0, 0, 0, [], none),
  (27, .iconst 0, 1, 0, 0, 0, [], none),
  (28, .istore_n 3, 1, 0, 0, 0, [], none),
  (29, .iconst 0, 1, 0, 0, 0, [], none),
  (30, .istore 4, 2, 0, 0, 0, [], none),
  (32, .iload 4, 2, 0, 0, 0, [], none),
  (34, .aload_n 0, 1, 0, 0, 0, [], none),
  (35, .getfield 324, 3, 9, 40, 0, [], none),
  (38, .if_icmp .ge 82, 3, 0, 0, 0, [120], none),
  (41, .iload_n 1, 1, 0, 0, 0, [], none),
  (42, .aload_n 0, 1, 0, 0, 0, [], none),
  (43, .getfield 46, 3, 9, 31, 0, [], none),
  (46, .iload 4, 2, 0, 0, 0, [], none),
  (48, .iaload, 1, 0, 0, 0, [], none),
  (49, .aload_n 0, 1, 0, 0, 0, [], none),
  (50, .getfield 49, 3, 9, 32, 0, [], none),
  (53, .iload 4, 2, 0, 0, 0, [], none),
  (55, .iaload, 1, 0, 0, 0, [], none),
  (56, .invokestatic 125, 3, 0, 0, 0, [], some mX9_in),
  (59, .ifCond .eq 28, 3, 0, 0, 0, [87], none),
  (62, .iload_n 2, 1, 0, 0, 0, [], none),
  (63, .aload_n 0, 1, 0, 0, 0, [], none),
  (64, .getfield 46, 3, 9, 31, 0, [], none),
  (67, .iload 4, 2, 0, 0, 0, [], none),
  (69, .iaload, 1, 0, 0, 0, [], none),
  (70, .aload_n 0, 1, 0, 0, 0, [], none),
  (71, .getfield 49, 3, 9, 32, 0, [], none),
  (74, .iload 4, 2, 0, 0, 0, [], none),
  (76, .iaload, 1, 0, 0, 0, [], none),
  (77, .invokestatic 125, 3, 0, 0, 0, [], some mX9_in),
  (80, .ifCond .eq 7, 3, 0, 0, 0, [87], none),
  (83, .iconst 1, 1, 0, 0, 0, [], none),
  (84, .goto 4, 3, 0, 0, 0, [88], none),
  (87, .iconst 0, 1, 0, 0, 0, [], none),
  (88, .istore 5, 2, 0, 0, 0, [], none),
  (90, .iload 5, 2, 0, 0, 0, [], none),
  (92, .ifCond .eq 22, 3, 0, 0, 0, [114], none),
  (95, .aload_n 0, 1, 0, 0, 0, [], none),
  (96, .getfield 55, 3, 9, 34, 0, [], none),
  (99, .iload 4, 2, 0, 0, 0, [], none),
  (101, .iaload, 1, 0, 0, 0, [], none),
  (102, .aload_n 0, 1, 0, 0, 0, [], none),
  (103, .getfield 55, 3, 9, 34, 0, [], none),
  (106, .iload_n 3, 1, 0, 0, 0, [], none),
  (107, .iaload, 1, 0, 0, 0, [], none),
  (108, .if_icmp .lt 6, 3, 0, 0, 0, [114], none),
  (111, .iload 4, 2, 0, 0, 0, [], none),
  (113, .istore_n 3, 1, 0, 0, 0, [], none),
  (114, .iinc 4 1, 3, 0, 0, 0, [], none),
  (117, .goto (-85), 3, 0, 0, 0, [32], none),
  (120, .aload_n 0, 1, 0, 0, 0, [], none),
  (121, .aload_n 0, 1, 0, 0, 0, [], none),
  (122, .getfield 52, 3, 9, 33, 0, [], none),
  (125, .iload_n 3, 1, 0, 0, 0, [], none),
  (126, .iaload, 1, 0, 0, 0, [], none),
  (127, .invokevirtual 255, 3, 0, 0, 0, [], some mX9_good),
  (130, .ireturn, 1, 0, 0, 0, [], none)]
set_option maxRecDepth 100000 in
theorem kX9_over : ab_def_ok mX9_over rX9_over := ⟨ab_mok_of 1643 108 1641 1642 (by decide +kernel), [0, 0, 1192, 0, 0, 1529, 0, 0, 0, 1529, 0, 0, 0, 1361, 0, 0, 0, 0, 0, 0, 0, 1232, 0, 0, 0, 1223, 0, 0, 0, 1224, 0, 0, 1377, 0, 0, 0, 1223, 0, 0, 0, 1224, 0, 0, 1377, 0, 0, 0, 0, 0, 0, 0, 0, 1226, 0, 0, 0, 1226, 0, 0, 0, 0, 0, 0, 0, 0, 0, 1225, 0, 0, 1509, 0], by decide +kernel⟩
set_option maxRecDepth 100000 in
theorem vX9_over_0 {x : ab_Cx} {d mc ms : Nat} {Post : Option ab_V → List ab_Ob → Prop} (hx : ab_At x mX9_over d mc ms Post) (a1 a2 : Int) (w0 : ab_Ob) (kc ks : Nat)
    (h : (∃ Q1 : Option ab_V → List ab_Ob → Prop, ab_Ct d 0 0 mX9_isNote [ab_O 0, ab_I a1] [(ab_pf w0 0 0)] Q1 ∧ (∀ r2 : Int, Q1 (some (ab_I r2)) [(ab_pf w0 0 0)] → ((r2 = 0 → ab_J x 21 [some (ab_O 0), none, none, none, none, none] [] [(ab_pf w0 0 0)] kc ks) ∧ (¬ r2 = 0 → (∃ Q3 : Option ab_V → List ab_Ob → Prop, ab_Ct d 0 0 mX9_isNote [ab_O 0, ab_I a2] [(ab_pf w0 0 0)] Q3 ∧ (∀ r4 : Int, Q3 (some (ab_I r4)) [(ab_pf w0 0 0)] → ((¬ r4 = 0 → ab_J x 32 [some (ab_O 0), some (ab_I a1), some (ab_I a2), some (ab_I 0), some (ab_I 0), none] [] [(ab_pf w0 0 0)] kc ks) ∧ (r4 = 0 → ab_J x 21 [some (ab_O 0), none, none, none, none, none] [] [(ab_pf w0 0 0)] kc ks))))))))) :
    ab_J x 0 [some (ab_O 0), some (ab_I a1), some (ab_I a2), none, none, none] [] [w0] kc ks := ab_go hx kX9_over.2 20 [(21, [true, false, false, false, false, false]), (32, [true, true, true, true, true, false]), (87, [true, true, true, true, true, false]), (88, [true, true, true, true, true, false]), (114, [true, true, true, true, true, false])] 0 h
set_option maxRecDepth 100000 in
theorem vX9_over_21 {x : ab_Cx} {d mc ms : Nat} {Post : Option ab_V → List ab_Ob → Prop} (hx : ab_At x mX9_over d mc ms Post) (w0 : ab_Ob) (kc ks : Nat)
    (h : (∃ Q1 : Option ab_V → List ab_Ob → Prop, ab_Ct d 0 0 mX9_refused [ab_O 0, ab_I 1] [w0] Q1 ∧ (∀ r2 : Int, ∀ v3 : ab_Ob, Q1 (some (ab_I r2)) [v3] → Post (some (ab_I r2)) [v3]))) :
    ab_J x 21 [some (ab_O 0), none, none, none, none, none] [] [w0] kc ks := ab_go hx kX9_over.2 8 [(21, [true, false, false, false, false, false]), (32, [true, true, true, true, true, false]), (87, [true, true, true, true, true, false]), (88, [true, true, true, true, true, false]), (114, [true, true, true, true, true, false])] 21 h
set_option maxRecDepth 100000 in
theorem vX9_over_32 {x : ab_Cx} {d mc ms : Nat} {Post : Option ab_V → List ab_Ob → Prop} (hx : ab_At x mX9_over d mc ms Post) (l1 l2 l3 l4 : Int) (w0 : ab_Ob) (kc ks : Nat)
    (h : (((w0.1 40) ≤ l4 → ((0 ≤ l3 ∧ l3 < (w0.2 33).1) ∧ (∃ Q1 : Option ab_V → List ab_Ob → Prop, ab_Ct d 0 0 mX9_good [ab_O 0, ab_I ((w0.2 33).2 l3)] [w0] Q1 ∧ (∀ r2 : Int, ∀ v3 : ab_Ob, Q1 (some (ab_I r2)) [v3] → Post (some (ab_I r2)) [v3])))) ∧ (¬ (w0.1 40) ≤ l4 → ((0 ≤ l4 ∧ l4 < (w0.2 31).1) ∧ ((0 ≤ l4 ∧ l4 < (w0.2 32).1) ∧ (∃ Q4 : Option ab_V → List ab_Ob → Prop, ab_Ct d 0 0 mX9_in [ab_I l1, ab_I ((w0.2 31).2 l4), ab_I ((w0.2 32).2 l4)] [] Q4 ∧ (∀ r5 : Int, Q4 (some (ab_I r5)) [] → ((r5 = 0 → ab_J x 87 [some (ab_O 0), some (ab_I l1), some (ab_I l2), some (ab_I l3), some (ab_I l4), none] [] [w0] kc ks) ∧ (¬ r5 = 0 → ((0 ≤ l4 ∧ l4 < (w0.2 31).1) ∧ ((0 ≤ l4 ∧ l4 < (w0.2 32).1) ∧ (∃ Q6 : Option ab_V → List ab_Ob → Prop, ab_Ct d 0 0 mX9_in [ab_I l2, ab_I ((w0.2 31).2 l4), ab_I ((w0.2 32).2 l4)] [] Q6 ∧ (∀ r7 : Int, Q6 (some (ab_I r7)) [] → ((r7 = 0 → ab_J x 87 [some (ab_O 0), some (ab_I l1), some (ab_I l2), some (ab_I l3), some (ab_I l4), none] [] [w0] kc ks) ∧ (¬ r7 = 0 → ab_J x 88 [some (ab_O 0), some (ab_I l1), some (ab_I l2), some (ab_I l3), some (ab_I l4), none] [ab_I 1] [w0] kc ks))))))))))))))) :
    ab_J x 32 [some (ab_O 0), some (ab_I l1), some (ab_I l2), some (ab_I l3), some (ab_I l4), none] [] [w0] kc ks := ab_go hx kX9_over.2 33 [(21, [true, false, false, false, false, false]), (32, [true, true, true, true, true, false]), (87, [true, true, true, true, true, false]), (88, [true, true, true, true, true, false]), (114, [true, true, true, true, true, false])] 32 h
set_option maxRecDepth 100000 in
theorem vX9_over_87 {x : ab_Cx} {d mc ms : Nat} {Post : Option ab_V → List ab_Ob → Prop} (hx : ab_At x mX9_over d mc ms Post) (l1 l2 l3 l4 : Int) (w0 : ab_Ob) (kc ks : Nat)
    (h : ab_J x 88 [some (ab_O 0), some (ab_I l1), some (ab_I l2), some (ab_I l3), some (ab_I l4), none] [ab_I 0] [w0] kc ks) :
    ab_J x 87 [some (ab_O 0), some (ab_I l1), some (ab_I l2), some (ab_I l3), some (ab_I l4), none] [] [w0] kc ks := ab_go hx kX9_over.2 6 [(21, [true, false, false, false, false, false]), (32, [true, true, true, true, true, false]), (87, [true, true, true, true, true, false]), (88, [true, true, true, true, true, false]), (114, [true, true, true, true, true, false])] 87 h
set_option maxRecDepth 100000 in
theorem vX9_over_88 {x : ab_Cx} {d mc ms : Nat} {Post : Option ab_V → List ab_Ob → Prop} (hx : ab_At x mX9_over d mc ms Post) (l1 l2 l3 l4 t0 : Int) (w0 : ab_Ob) (kc ks : Nat)
    (h : ((t0 = 0 → ab_J x 114 [some (ab_O 0), some (ab_I l1), some (ab_I l2), some (ab_I l3), some (ab_I l4), none] [] [w0] kc ks) ∧ (¬ t0 = 0 → ((0 ≤ l4 ∧ l4 < (w0.2 34).1) ∧ ((0 ≤ l3 ∧ l3 < (w0.2 34).1) ∧ ((((w0.2 34).2 l4) < ((w0.2 34).2 l3) → ab_J x 114 [some (ab_O 0), some (ab_I l1), some (ab_I l2), some (ab_I l3), some (ab_I l4), none] [] [w0] kc ks) ∧ (¬ ((w0.2 34).2 l4) < ((w0.2 34).2 l3) → ab_J x 114 [some (ab_O 0), some (ab_I l1), some (ab_I l2), some (ab_I l4), some (ab_I l4), none] [] [w0] kc ks))))))) :
    ab_J x 88 [some (ab_O 0), some (ab_I l1), some (ab_I l2), some (ab_I l3), some (ab_I l4), none] [ab_I t0] [w0] kc ks := ab_go hx kX9_over.2 19 [(21, [true, false, false, false, false, false]), (32, [true, true, true, true, true, false]), (87, [true, true, true, true, true, false]), (88, [true, true, true, true, true, false]), (114, [true, true, true, true, true, false])] 88 h
set_option maxRecDepth 100000 in
theorem vX9_over_114 {x : ab_Cx} {d mc ms : Nat} {Post : Option ab_V → List ab_Ob → Prop} (hx : ab_At x mX9_over d mc ms Post) (l1 l2 l3 l4 : Int) (w0 : ab_Ob) (kc ks : Nat)
    (h : ((-2147483648 ≤ l4 + 1 ∧ l4 + 1 ≤ 2147483647) ∧ ab_J x 32 [some (ab_O 0), some (ab_I l1), some (ab_I l2), some (ab_I l3), some (ab_I (l4 + 1)), none] [] [w0] kc ks)) :
    ab_J x 114 [some (ab_O 0), some (ab_I l1), some (ab_I l2), some (ab_I l3), some (ab_I l4), none] [] [w0] kc ks := ab_go hx kX9_over.2 7 [(21, [true, false, false, false, false, false]), (32, [true, true, true, true, true, false]), (87, [true, true, true, true, true, false]), (88, [true, true, true, true, true, false]), (114, [true, true, true, true, true, false])] 114 h
def mX9_underOne : ab_M := ((yX9_underOne, cX9_underOne, 3, (some .int)), ([9], [(0, 0)], [false], false, false, 0), (false, 9, 1))
def rX9_underOne : List ab_R := [(0, .iconst 0, 1, 0, 0, 0, [], none),
  (1, .istore_n 2, 1, 0, 0, 0, [], none),
  (2, .iload_n 2, 1, 0, 0, 0, [], none),
  (3, .aload_n 0, 1, 0, 0, 0, [], none),
  (4, .getfield 324, 3, 9, 40, 0, [], none),
  (7, .if_icmp .ge 48, 3, 0, 0, 0, [55], none),
  (10, .aload_n 0, 1, 0, 0, 0, [], none),
  (11, .getfield 52, 3, 9, 33, 0, [], none),
  (14, .iload_n 2, 1, 0, 0, 0, [], none),
  (15, .iaload, 1, 0, 0, 0, [], none),
  (16, .iload_n 1, 1, 0, 0, 0, [], none),
  (17, .if_icmp .ne 32, 3, 0, 0, 0, [49], none),
  (20, .aload_n 0, 1, 0, 0, 0, [], none),
  (21, .getfield 55, 3, 9, 34, 0, [], none),
  (24, .iload_n 2, 1, 0, 0, 0, [], none),
  (25, .iaload, 1, 0, 0, 0, [], none),
  (26, .aload_n 0, 1, 0, 0, 0, [], none),
  (27, .getfield 58, 3, 9, 35, 0, [], none),
  (30, .iload_n 1, 1, 0, 0, 0, [], none),
  (31, .iaload, 1, 0, 0, 0, [], none),
  (32, .if_icmp .ne 17, 3, 0, 0, 0, [49], none),
  (35, .aload_n 0, 1, 0, 0, 0, [], none),
  (36, .getfield 49, 3, 9, 32, 0, [], none),
  (39, .iload_n 2, 1, 0, 0, 0, [], none),
  (40, .iaload, 1, 0, 0, 0, [], none),
  (41, .aload_n 0, 1, 0, 0, 0, [], none),
  (42, .getfield 46, 3, 9, 31, 0, [], none),
  (45, .iload_n 2, 1, 0, 0, 0, [], none),
  (46, .iaload, 1, 0, 0, 0, [], none),
  (47, .isub, 1, 0, 0, 0, [], none),
  (48, .ireturn, 1, 0, 0, 0, [], none),
  (49, .iinc 2 1, 3, 0, 0, 0, [], none),
  (52, .goto (-50), 3, 0, 0, 0, [2], none),
  (55, .iconst 0, 1, 0, 0, 0, [], none),
  (56, .ireturn, 1, 0, 0, 0, [], none)]
set_option maxRecDepth 100000 in
theorem kX9_underOne : ab_def_ok mX9_underOne rX9_underOne := ⟨ab_mok_of 1651 108 1650 86 (by decide +kernel), [0, 0, 0, 0, 1232, 0, 0, 1225, 0, 0, 0, 0, 0, 1226, 0, 0, 0, 1227, 0, 0, 0, 0, 1224, 0, 0, 0, 1223, 0, 0, 0, 0, 0, 0, 0, 0], by decide +kernel⟩
set_option maxRecDepth 100000 in
theorem vX9_underOne_0 {x : ab_Cx} {d mc ms : Nat} {Post : Option ab_V → List ab_Ob → Prop} (hx : ab_At x mX9_underOne d mc ms Post) (a1 : Int) (w0 : ab_Ob) (kc ks : Nat)
    (h : ab_J x 2 [some (ab_O 0), some (ab_I a1), some (ab_I 0)] [] [w0] kc ks) :
    ab_J x 0 [some (ab_O 0), some (ab_I a1), none] [] [w0] kc ks := ab_go hx kX9_underOne.2 7 [(2, [true, true, true])] 0 h
set_option maxRecDepth 100000 in
theorem vX9_underOne_2 {x : ab_Cx} {d mc ms : Nat} {Post : Option ab_V → List ab_Ob → Prop} (hx : ab_At x mX9_underOne d mc ms Post) (l1 l2 : Int) (w0 : ab_Ob) (kc ks : Nat)
    (h : (((w0.1 40) ≤ l2 → Post (some (ab_I 0)) [w0]) ∧ (¬ (w0.1 40) ≤ l2 → ((0 ≤ l2 ∧ l2 < (w0.2 33).1) ∧ ((¬ ((w0.2 33).2 l2) = l1 → ((-2147483648 ≤ l2 + 1 ∧ l2 + 1 ≤ 2147483647) ∧ ab_J x 2 [some (ab_O 0), some (ab_I l1), some (ab_I (l2 + 1))] [] [w0] kc ks)) ∧ (((w0.2 33).2 l2) = l1 → ((0 ≤ l2 ∧ l2 < (w0.2 34).1) ∧ ((0 ≤ l1 ∧ l1 < (w0.2 35).1) ∧ ((¬ ((w0.2 34).2 l2) = ((w0.2 35).2 l1) → ((-2147483648 ≤ l2 + 1 ∧ l2 + 1 ≤ 2147483647) ∧ ab_J x 2 [some (ab_O 0), some (ab_I l1), some (ab_I (l2 + 1))] [] [w0] kc ks)) ∧ (((w0.2 34).2 l2) = ((w0.2 35).2 l1) → ((0 ≤ l2 ∧ l2 < (w0.2 32).1) ∧ ((0 ≤ l2 ∧ l2 < (w0.2 31).1) ∧ ((-2147483648 ≤ ((w0.2 32).2 l2) - ((w0.2 31).2 l2) ∧ ((w0.2 32).2 l2) - ((w0.2 31).2 l2) ≤ 2147483647) ∧ Post (some (ab_I (((w0.2 32).2 l2) - ((w0.2 31).2 l2)))) [w0]))))))))))))) :
    ab_J x 2 [some (ab_O 0), some (ab_I l1), some (ab_I l2)] [] [w0] kc ks := ab_go hx kX9_underOne.2 33 [(2, [true, true, true])] 2 h
def mX9_under : ab_M := ((yX9_under, cX9_under, 2, (some .int)), ([9], [(0, 0)], [true], false, false, 0), (false, 9, 1))
def rX9_under : List ab_R := [(0, .aload_n 0, 1, 0, 0, 0, [], none),
  (1, .iconst 0, 1, 0, 0, 0, [], none),
  (2, .putfield 100, 3, 9, 0, 0, [], none),
  (5, .aload_n 0, 1, 0, 0, 0, [], none),
  (6, .iload_n 1, 1, 0, 0, 0, [], none),
  (7, .invokevirtual 307, 3, 0, 0, 0, [], some mX9_isNote),
  (10, .ifCond .eq 15, 3, 0, 0, 0, [25], none),
  (13, .aload_n 0, 1, 0, 0, 0, [], none),
  (14, .aload_n 0, 1, 0, 0, 0, [], none),
  (15, .iload_n 1, 1, 0, 0, 0, [], none),
  (16, .invokevirtual 358, 3, 0, 0, 0, [], some mX9_underOne),
  (19, .invokevirtual 255, 3, 0, 0, 0, [], some mX9_good),
  (22, .goto 8, 3, 0, 0, 0, [30], none),
  (25, .aload_n 0, 1, 0, 0, 0, [], none),
  (26, .iconst 1, 1, 0, 0, 0, [], none),
  (27, .invokevirtual 229, 3, 0, 0, 0, [], some mX9_refused),
  (30, .ireturn, 1, 0, 0, 0, [], none)]
set_option maxRecDepth 100000 in
theorem kX9_under : ab_def_ok mX9_under rX9_under := ⟨ab_mok_of 1647 108 1645 1646 (by decide +kernel), [0, 0, 1192, 0, 0, 1529, 0, 0, 0, 0, 1648, 1509, 0, 0, 0, 1361, 0], by decide +kernel⟩
set_option maxRecDepth 100000 in
theorem vX9_under_0 {x : ab_Cx} {d mc ms : Nat} {Post : Option ab_V → List ab_Ob → Prop} (hx : ab_At x mX9_under d mc ms Post) (a1 : Int) (w0 : ab_Ob) (kc ks : Nat)
    (h : (∃ Q1 : Option ab_V → List ab_Ob → Prop, ab_Ct d 0 0 mX9_isNote [ab_O 0, ab_I a1] [(ab_pf w0 0 0)] Q1 ∧ (∀ r2 : Int, Q1 (some (ab_I r2)) [(ab_pf w0 0 0)] → ((r2 = 0 → (∃ Q3 : Option ab_V → List ab_Ob → Prop, ab_Ct d 0 0 mX9_refused [ab_O 0, ab_I 1] [(ab_pf w0 0 0)] Q3 ∧ (∀ r4 : Int, ∀ v5 : ab_Ob, Q3 (some (ab_I r4)) [v5] → Post (some (ab_I r4)) [v5]))) ∧ (¬ r2 = 0 → (∃ Q6 : Option ab_V → List ab_Ob → Prop, ab_Ct d 0 0 mX9_underOne [ab_O 0, ab_I a1] [(ab_pf w0 0 0)] Q6 ∧ (∀ r7 : Int, Q6 (some (ab_I r7)) [(ab_pf w0 0 0)] → (∃ Q8 : Option ab_V → List ab_Ob → Prop, ab_Ct d 0 0 mX9_good [ab_O 0, ab_I r7] [(ab_pf w0 0 0)] Q8 ∧ (∀ r9 : Int, ∀ v10 : ab_Ob, Q8 (some (ab_I r9)) [v10] → Post (some (ab_I r9)) [v10]))))))))) :
    ab_J x 0 [some (ab_O 0), some (ab_I a1)] [] [w0] kc ks := ab_go hx kX9_under.2 18 [] 0 h
def mX9_partOf : ab_M := ((yX9_partOf, cX9_partOf, 3, (some .int)), ([9], [(0, 0)], [false], false, false, 0), (false, 9, 1))
def rX9_partOf : List ab_R := [(0, .iconst 0, 1, 0, 0, 0, [], none),
  (1, .istore_n 2, 1, 0, 0, 0, [], none),
  (2, .aload_n 0, 1, 0, 0, 0, [], none),
  (3, .getfield 52, 3, 9, 33, 0, [], none),
  (6, .iload_n 2, 1, 0, 0, 0, [], none),
  (7, .iaload, 1, 0, 0, 0, [], none),
  (8, .iload_n 1, 1, 0, 0, 0, [], none),
  (9, .if_icmp .ne 18, 3, 0, 0, 0, [27], none),
  (12, .aload_n 0, 1, 0, 0, 0, [], none),
  (13, .getfield 55, 3, 9, 34, 0, [], none),
  (16, .iload_n 2, 1, 0, 0, 0, [], none),
  (17, .iaload, 1, 0, 0, 0, [], none),
  (18, .aload_n 0, 1, 0, 0, 0, [], none),
  (19, .getfield 58, 3, 9, 35, 0, [], none),
  (22, .iload_n 1, 1, 0, 0, 0, [], none),
  (23, .iaload, 1, 0, 0, 0, [], none),
  (24, .if_icmp .eq 9, 3, 0, 0, 0, [33], none),
  (27, .iinc 2 1, 3, 0, 0, 0, [], none),
  (30, .goto (-28), 3, 0, 0, 0, [2], none),
  (33, .iload_n 2, 1, 0, 0, 0, [], none),
  (34, .ireturn, 1, 0, 0, 0, [], none)]
set_option maxRecDepth 100000 in
theorem kX9_partOf : ab_def_ok mX9_partOf rX9_partOf := ⟨ab_mok_of 1659 108 1658 87 (by decide +kernel), [0, 0, 0, 1225, 0, 0, 0, 0, 0, 1226, 0, 0, 0, 1227, 0, 0, 0, 0, 0, 0, 0], by decide +kernel⟩
set_option maxRecDepth 100000 in
theorem vX9_partOf_0 {x : ab_Cx} {d mc ms : Nat} {Post : Option ab_V → List ab_Ob → Prop} (hx : ab_At x mX9_partOf d mc ms Post) (a1 : Int) (w0 : ab_Ob) (kc ks : Nat)
    (h : ab_J x 2 [some (ab_O 0), some (ab_I a1), some (ab_I 0)] [] [w0] kc ks) :
    ab_J x 0 [some (ab_O 0), some (ab_I a1), none] [] [w0] kc ks := ab_go hx kX9_partOf.2 7 [(2, [true, true, true])] 0 h
set_option maxRecDepth 100000 in
theorem vX9_partOf_2 {x : ab_Cx} {d mc ms : Nat} {Post : Option ab_V → List ab_Ob → Prop} (hx : ab_At x mX9_partOf d mc ms Post) (l1 l2 : Int) (w0 : ab_Ob) (kc ks : Nat)
    (h : ((0 ≤ l2 ∧ l2 < (w0.2 33).1) ∧ ((¬ ((w0.2 33).2 l2) = l1 → ((-2147483648 ≤ l2 + 1 ∧ l2 + 1 ≤ 2147483647) ∧ ab_J x 2 [some (ab_O 0), some (ab_I l1), some (ab_I (l2 + 1))] [] [w0] kc ks)) ∧ (((w0.2 33).2 l2) = l1 → ((0 ≤ l2 ∧ l2 < (w0.2 34).1) ∧ ((0 ≤ l1 ∧ l1 < (w0.2 35).1) ∧ ((((w0.2 34).2 l2) = ((w0.2 35).2 l1) → Post (some (ab_I l2)) [w0]) ∧ (¬ ((w0.2 34).2 l2) = ((w0.2 35).2 l1) → ((-2147483648 ≤ l2 + 1 ∧ l2 + 1 ≤ 2147483647) ∧ ab_J x 2 [some (ab_O 0), some (ab_I l1), some (ab_I (l2 + 1))] [] [w0] kc ks))))))))) :
    ab_J x 2 [some (ab_O 0), some (ab_I l1), some (ab_I l2)] [] [w0] kc ks := ab_go hx kX9_partOf.2 22 [(2, [true, true, true])] 2 h
def mX9_aboveOf : ab_M := ((yX9_aboveOf, cX9_aboveOf, 4, (some .int)), ([9], [(0, 0)], [false], false, false, 0), (false, 9, 1))
def rX9_aboveOf : List ab_R := [(0, .iconst (-1), 1, 0, 0, 0, [], none),
  (1, .istore_n 2, 1, 0, 0, 0, [], none),
  (2, .iconst 0, 1, 0, 0, 0, [], none),
  (3, .istore_n 3, 1, 0, 0, 0, [], none),
  (4, .iload_n 3, 1, 0, 0, 0, [], none),
  (5, .iload_n 1, 1, 0, 0, 0, [], none),
  (6, .if_icmp .ge 58, 3, 0, 0, 0, [64], none),
  (9, .aload_n 0, 1, 0, 0, 0, [], none),
  (10, .getfield 55, 3, 9, 34, 0, [], none),
  (13, .iload_n 3, 1, 0, 0, 0, [], none),
  (14, .iaload, 1, 0, 0, 0, [], none),
  (15, .aload_n 0, 1, 0, 0, 0, [], none),
  (16, .getfield 55, 3, 9, 34, 0, [], none),
  (19, .iload_n 1, 1, 0, 0, 0, [], none),
  (20, .iaload, 1, 0, 0, 0, [], none),
  (21, .iconst 1, 1, 0, 0, 0, [], none),
  (22, .isub, 1, 0, 0, 0, [], none),
  (23, .if_icmp .ne 35, 3, 0, 0, 0, [58], none),
  (26, .aload_n 0, 1, 0, 0, 0, [], none),
  (27, .getfield 46, 3, 9, 31, 0, [], none),
  (30, .iload_n 3, 1, 0, 0, 0, [], none),
  (31, .iaload, 1, 0, 0, 0, [], none),
  (32, .aload_n 0, 1, 0, 0, 0, [], none),
  (33, .getfield 46, 3, 9, 31, 0, [], none),
  (36, .iload_n 1, 1, 0, 0, 0, [], none),
  (37, .iaload, 1, 0, 0, 0, [], none),
  (38, .if_icmp .gt 20, 3, 0, 0, 0, [58], none),
  (41, .aload_n 0, 1, 0, 0, 0, [], none),
  (42, .getfield 49, 3, 9, 32, 0, [], none),
  (45, .iload_n 3, 1, 0, 0, 0, [], none),
  (46, .iaload, 1, 0, 0, 0, [], none),
  (47, .aload_n 0, 1, 0, 0, 0, [], none),
  (48, .getfield 49, 3, 9, 32, 0, [], none),
  (51, .iload_n 1, 1, 0, 0, 0, [], none),
  (52, .iaload, 1, 0, 0, 0, [], none),
  (53, .if_icmp .lt 5, 3, 0, 0, 0, [58], none),
  (56, .iload_n 3, 1, 0, 0, 0, [], none),
  (57, .istore_n 2, 1, 0, 0, 0, [], none),
  (58, .iinc 3 1, 3, 0, 0, 0, [], none),
  (61, .goto (-57), 3, 0, 0, 0, [4], none),
  (64, .iload_n 2, 1, 0, 0, 0, [], none),
  (65, .ireturn, 1, 0, 0, 0, [], none)]
set_option maxRecDepth 100000 in
theorem kX9_aboveOf : ab_def_ok mX9_aboveOf rX9_aboveOf := ⟨ab_mok_of 1663 108 1662 88 (by decide +kernel), [0, 0, 0, 0, 0, 0, 0, 0, 1226, 0, 0, 0, 1226, 0, 0, 0, 0, 0, 0, 1223, 0, 0, 0, 1223, 0, 0, 0, 0, 1224, 0, 0, 0, 1224, 0, 0, 0, 0, 0, 0, 0, 0, 0], by decide +kernel⟩
set_option maxRecDepth 100000 in
theorem vX9_aboveOf_0 {x : ab_Cx} {d mc ms : Nat} {Post : Option ab_V → List ab_Ob → Prop} (hx : ab_At x mX9_aboveOf d mc ms Post) (a1 : Int) (w0 : ab_Ob) (kc ks : Nat)
    (h : ab_J x 4 [some (ab_O 0), some (ab_I a1), some (ab_I (-1)), some (ab_I 0)] [] [w0] kc ks) :
    ab_J x 0 [some (ab_O 0), some (ab_I a1), none, none] [] [w0] kc ks := ab_go hx kX9_aboveOf.2 9 [(4, [true, true, true, true])] 0 h
set_option maxRecDepth 100000 in
theorem vX9_aboveOf_4 {x : ab_Cx} {d mc ms : Nat} {Post : Option ab_V → List ab_Ob → Prop} (hx : ab_At x mX9_aboveOf d mc ms Post) (l1 l2 l3 : Int) (w0 : ab_Ob) (kc ks : Nat)
    (h : ((l1 ≤ l3 → Post (some (ab_I l2)) [w0]) ∧ (¬ l1 ≤ l3 → ((0 ≤ l3 ∧ l3 < (w0.2 34).1) ∧ ((0 ≤ l1 ∧ l1 < (w0.2 34).1) ∧ ((-2147483648 ≤ ((w0.2 34).2 l1) - 1 ∧ ((w0.2 34).2 l1) - 1 ≤ 2147483647) ∧ ((¬ ((w0.2 34).2 l3) = (((w0.2 34).2 l1) - 1) → ((-2147483648 ≤ l3 + 1 ∧ l3 + 1 ≤ 2147483647) ∧ ab_J x 4 [some (ab_O 0), some (ab_I l1), some (ab_I l2), some (ab_I (l3 + 1))] [] [w0] kc ks)) ∧ (((w0.2 34).2 l3) = (((w0.2 34).2 l1) - 1) → ((0 ≤ l3 ∧ l3 < (w0.2 31).1) ∧ ((0 ≤ l1 ∧ l1 < (w0.2 31).1) ∧ ((((w0.2 31).2 l1) < ((w0.2 31).2 l3) → ((-2147483648 ≤ l3 + 1 ∧ l3 + 1 ≤ 2147483647) ∧ ab_J x 4 [some (ab_O 0), some (ab_I l1), some (ab_I l2), some (ab_I (l3 + 1))] [] [w0] kc ks)) ∧ (¬ ((w0.2 31).2 l1) < ((w0.2 31).2 l3) → ((0 ≤ l3 ∧ l3 < (w0.2 32).1) ∧ ((0 ≤ l1 ∧ l1 < (w0.2 32).1) ∧ ((((w0.2 32).2 l3) < ((w0.2 32).2 l1) → ((-2147483648 ≤ l3 + 1 ∧ l3 + 1 ≤ 2147483647) ∧ ab_J x 4 [some (ab_O 0), some (ab_I l1), some (ab_I l2), some (ab_I (l3 + 1))] [] [w0] kc ks)) ∧ (¬ ((w0.2 32).2 l3) < ((w0.2 32).2 l1) → ((-2147483648 ≤ l3 + 1 ∧ l3 + 1 ≤ 2147483647) ∧ ab_J x 4 [some (ab_O 0), some (ab_I l1), some (ab_I l3), some (ab_I (l3 + 1))] [] [w0] kc ks))))))))))))))))) :
    ab_J x 4 [some (ab_O 0), some (ab_I l1), some (ab_I l2), some (ab_I l3)] [] [w0] kc ks := ab_go hx kX9_aboveOf.2 41 [(4, [true, true, true, true])] 4 h
def mX9_reach : ab_M := ((yX9_reach, cX9_reach, 5, (some .int)), ([9], [(0, 0)], [true], false, false, 0), (false, 9, 2))
def rX9_reach : List ab_R := [(0, .aload_n 0, 1, 0, 0, 0, [], none),
  (1, .iconst 0, 1, 0, 0, 0, [], none),
  (2, .putfield 100, 3, 9, 0, 0, [], none),
  (5, .aload_n 0, 1, 0, 0, 0, [], none),
  (6, .iload_n 1, 1, 0, 0, 0, [], none),
  (7, .invokevirtual 307, 3, 0, 0, 0, [], some mX9_isNote),
  (10, .ifCond .eq 12, 3, 0, 0, 0, [22], none),
  (13, .iload_n 2, 1, 0, 0, 0, [], none),
  (14, .iconst 0, 1, 0, 0, 0, [], none),
  (15, .iconst 2, 1, 0, 0, 0, [], none),
  (16, .invokestatic 125, 3, 0, 0, 0, [], some mX9_in),
  (19, .ifCond .ne 9, 3, 0, 0, 0, [28], none),
  (22, .aload_n 0, 1, 0, 0, 0, [], none),
  (23, .iconst 1, 1, 0, 0, 0, [], none),
  (24, .invokevirtual 229, 3, 0, 0, 0, [], some mX9_refused),
  (27, .ireturn, 1, 0, 0, 0, [], none),
  (28, .aload_n 0, 1, 0, 0, 0, [], none),
  (29, .iload_n 1, 1, 0, 0, 0, [], none),
  (30, .invokevirtual 361, 3, 0, 0, 0, [], some mX9_partOf),
  (33, .istore_n 3, 1, 0, 0, 0, [], none),
  (34, .iload_n 2, 1, 0, 0, 0, [], none),
  (35, .iconst 2, 1, 0, 0, 0, [], none),
  (36, .if_icmp .ge 27, 3, 0, 0, 0, [63], none),
  (39, .aload_n 0, 1, 0, 0, 0, [], none),
  (40, .iload_n 2, 1, 0, 0, 0, [], none),
  (41, .ifCond .ne 12, 3, 0, 0, 0, [53], none),
  (44, .aload_n 0, 1, 0, 0, 0, [], none),
  (45, .getfield 46, 3, 9, 31, 0, [], none),
  (48, .iload_n 3, 1, 0, 0, 0, [], none),
  (49, .iaload, 1, 0, 0, 0, [], none),
  (50, .goto 9, 3, 0, 0, 0, [59], none),
  (53, .aload_n 0, 1, 0, 0, 0, [], none),
  (54, .getfield 49, 3, 9, 32, 0, [], none),
  (57, .iload_n 3, 1, 0, 0, 0, [], none),
  (58, .iaload, 1, 0, 0, 0, [], none),
  (59, .invokevirtual 255, 3, 0, 0, 0, [], some mX9_good),
  (62, .ireturn, 1, 0, 0, 0, [], none),
  (63, .aload_n 0, 1, 0, 0, 0, [], none),
  (64, .iload_n 3, 1, 0, 0, 0, [], none),
  (65, .invokevirtual 364, 3, 0, 0, 0, [], some mX9_aboveOf),
  (68, .istore 4, 2, 0, 0, 0, [], none),
  (70, .aload_n 0, 1, 0, 0, 0, [], none),
  (71, .iload 4, 2, 0, 0, 0, [], none),
  (73, .iconst (-1), 1, 0, 0, 0, [], none),
  (74, .if_icmp .ne 8, 3, 0, 0, 0, [82], none),
  (77, .bipush (-2), 2, 0, 0, 0, [], none),
  (79, .goto 10, 3, 0, 0, 0, [89], none),
  (82, .aload_n 0, 1, 0, 0, 0, [], none),
  (83, .getfield 52, 3, 9, 33, 0, [], none),
  (86, .iload 4, 2, 0, 0, 0, [], none),
  (88, .iaload, 1, 0, 0, 0, [], none),
  (89, .invokevirtual 255, 3, 0, 0, 0, [], some mX9_good),
  (92, .ireturn, 1, 0, 0, 0, [], none)]
set_option maxRecDepth 100000 in
theorem kX9_reach : ab_def_ok mX9_reach rX9_reach := ⟨ab_mok_of 1655 108 1653 1654 (by decide +kernel), [0, 0, 1192, 0, 0, 1529, 0, 0, 0, 0, 1377, 0, 0, 0, 1361, 0, 0, 0, 1656, 0, 0, 0, 0, 0, 0, 0, 0, 1223, 0, 0, 0, 0, 1224, 0, 0, 1509, 0, 0, 0, 1660, 0, 0, 0, 0, 0, 0, 0, 0, 1225, 0, 0, 1509, 0], by decide +kernel⟩
set_option maxRecDepth 100000 in
theorem vX9_reach_0 {x : ab_Cx} {d mc ms : Nat} {Post : Option ab_V → List ab_Ob → Prop} (hx : ab_At x mX9_reach d mc ms Post) (a1 a2 : Int) (w0 : ab_Ob) (kc ks : Nat)
    (h : (∃ Q1 : Option ab_V → List ab_Ob → Prop, ab_Ct d 0 0 mX9_isNote [ab_O 0, ab_I a1] [(ab_pf w0 0 0)] Q1 ∧ (∀ r2 : Int, Q1 (some (ab_I r2)) [(ab_pf w0 0 0)] → ((r2 = 0 → (∃ Q3 : Option ab_V → List ab_Ob → Prop, ab_Ct d 0 0 mX9_refused [ab_O 0, ab_I 1] [(ab_pf w0 0 0)] Q3 ∧ (∀ r4 : Int, ∀ v5 : ab_Ob, Q3 (some (ab_I r4)) [v5] → Post (some (ab_I r4)) [v5]))) ∧ (¬ r2 = 0 → (∃ Q6 : Option ab_V → List ab_Ob → Prop, ab_Ct d 0 0 mX9_in [ab_I a2, ab_I 0, ab_I 2] [] Q6 ∧ (∀ r7 : Int, Q6 (some (ab_I r7)) [] → ((¬ r7 = 0 → (∃ Q8 : Option ab_V → List ab_Ob → Prop, ab_Ct d 0 0 mX9_partOf [ab_O 0, ab_I a1] [(ab_pf w0 0 0)] Q8 ∧ (∀ r9 : Int, Q8 (some (ab_I r9)) [(ab_pf w0 0 0)] → ((2 ≤ a2 → (∃ Q10 : Option ab_V → List ab_Ob → Prop, ab_Ct d 0 0 mX9_aboveOf [ab_O 0, ab_I r9] [(ab_pf w0 0 0)] Q10 ∧ (∀ r11 : Int, Q10 (some (ab_I r11)) [(ab_pf w0 0 0)] → ((¬ r11 = (-1) → ((0 ≤ r11 ∧ r11 < (w0.2 33).1) ∧ (∃ Q12 : Option ab_V → List ab_Ob → Prop, ab_Ct d 0 0 mX9_good [ab_O 0, ab_I ((w0.2 33).2 r11)] [(ab_pf w0 0 0)] Q12 ∧ (∀ r13 : Int, ∀ v14 : ab_Ob, Q12 (some (ab_I r13)) [v14] → Post (some (ab_I r13)) [v14])))) ∧ (r11 = (-1) → (∃ Q15 : Option ab_V → List ab_Ob → Prop, ab_Ct d 0 0 mX9_good [ab_O 0, ab_I (-2)] [(ab_pf w0 0 0)] Q15 ∧ (∀ r16 : Int, ∀ v17 : ab_Ob, Q15 (some (ab_I r16)) [v17] → Post (some (ab_I r16)) [v17]))))))) ∧ (¬ 2 ≤ a2 → ((¬ a2 = 0 → ((0 ≤ r9 ∧ r9 < (w0.2 32).1) ∧ (∃ Q18 : Option ab_V → List ab_Ob → Prop, ab_Ct d 0 0 mX9_good [ab_O 0, ab_I ((w0.2 32).2 r9)] [(ab_pf w0 0 0)] Q18 ∧ (∀ r19 : Int, ∀ v20 : ab_Ob, Q18 (some (ab_I r19)) [v20] → Post (some (ab_I r19)) [v20])))) ∧ (a2 = 0 → ((0 ≤ r9 ∧ r9 < (w0.2 31).1) ∧ (∃ Q21 : Option ab_V → List ab_Ob → Prop, ab_Ct d 0 0 mX9_good [ab_O 0, ab_I ((w0.2 31).2 r9)] [(ab_pf w0 0 0)] Q21 ∧ (∀ r22 : Int, ∀ v23 : ab_Ob, Q21 (some (ab_I r22)) [v23] → Post (some (ab_I r22)) [v23])))))))))) ∧ (r7 = 0 → (∃ Q24 : Option ab_V → List ab_Ob → Prop, ab_Ct d 0 0 mX9_refused [ab_O 0, ab_I 1] [(ab_pf w0 0 0)] Q24 ∧ (∀ r25 : Int, ∀ v26 : ab_Ob, Q24 (some (ab_I r25)) [v26] → Post (some (ab_I r25)) [v26]))))))))))) :
    ab_J x 0 [some (ab_O 0), some (ab_I a1), some (ab_I a2), none, none] [] [w0] kc ks := ab_go hx kX9_reach.2 37 [] 0 h
def mX9_climax : ab_M := ((yX9_climax, cX9_climax, 5, (some .int)), ([9], [(0, 0)], [true], false, false, 0), (false, 9, 1))
def rX9_climax : List ab_R := [(0, .aload_n 0, 1, 0, 0, 0, [], none),
  (1, .iconst 0, 1, 0, 0, 0, [], none),
  (2, .putfield 100, 3, 9, 0, 0, [], none),
  (5, .aload_n 0, 1, 0, 0, 0, [], none),
  (6, .getfield 235, 3, 9, 14, 0, [], none),
  (9, .ifCond .ne 9, 3, 0, 0, 0, [18], none),
  (12, .aload_n 0, 1, 0, 0, 0, [], none),
  (13, .iconst 1, 1, 0, 0, 0, [], none),
  (14, .invokevirtual 229, 3, 0, 0, 0, [], some mX9_refused),
  (17, .ireturn, 1, 0, 0, 0, [], none),
  (18, .aload_n 0, 1, 0, 0, 0, [], none),
  (19, .iload_n 1, 1, 0, 0, 0, [], none),
  (20, .invokevirtual 352, 3, 0, 0, 0, [], some mX9_isLevel),
  (23, .ifCond .ne 9, 3, 0, 0, 0, [32], none),
  (26, .aload_n 0, 1, 0, 0, 0, [], none),
  (27, .iconst 2, 1, 0, 0, 0, [], none),
  (28, .invokevirtual 229, 3, 0, 0, 0, [], some mX9_refused),
  (31, .ireturn, 1, 0, 0, 0, [], none),
  (32, .aload_n 0, 1, 0, 0, 0, [], none),
  (33, .getfield 52, 3, 9, 33, 0, [], none),
  (36, .aload_n 0, 1, 0, 0, 0, [], none),
  (37, .iload_n 1, 1, 0, 0, 0, [], none),
  (38, .iconst 0, 1, 0, 0, 0, [], none),
  (39, .invokevirtual 355, 3, 0, 0, 0, [], some mX9_levelAt),
  (42, .iaload, 1, 0, 0, 0, [], none),
  (43, .istore_n 2, 1, 0, 0, 0, [], none),
  (44, .aload_n 0, 1, 0, 0, 0, [], none),
  (45, .iload_n 1, 1, 0, 0, 0, [], none),
  (46, .iconst (-1), 1, 0, 0, 0, [], none),
  (47, .invokevirtual 355, 3, 0, 0, 0, [], some mX9_levelAt),
  (50, .istore_n 3, 1, 0, 0, 0, [], none),
  (51, .iconst 1, 1, 0, 0, 0, [], none),
  (52, .istore 4, 2, 0, 0, 0, [], none),
  (54, .iload 4, 2, 0, 0, 0, [], none),
  (56, .iload_n 3, 1, 0, 0, 0, [], none),
  (57, .if_icmp .ge 46, 3, 0, 0, 0, [103], none),
  (60, .aload_n 0, 1, 0, 0, 0, [], none),
  (61, .aload_n 0, 1, 0, 0, 0, [], none),
  (62, .getfield 52, 3, 9, 33, 0, [], none),
  (65, .aload_n 0, 1, 0, 0, 0, [], none),
  (66, .iload_n 1, 1, 0, 0, 0, [], none),
  (67, .iload 4, 2, 0, 0, 0, [], none),
  (69, .invokevirtual 355, 3, 0, 0, 0, [], some mX9_levelAt),
  (72, .iaload, 1, 0, 0, 0, [], none),
  (73, .invokevirtual 264, 3, 0, 0, 0, [], some mX9_pitchOf),
  (76, .aload_n 0, 1, 0, 0, 0, [], none),
  (77, .iload_n 2, 1, 0, 0, 0, [], none),
  (78, .invokevirtual 264, 3, 0, 0, 0, [], some mX9_pitchOf),
  (81, .if_icmp .le 16, 3, 0, 0, 0, [97], none),
  (84, .aload_n 0, 1, 0, 0, 0, [], none),
  (85, .getfield 52, 3, 9, 33, 0, [], none),
  (88, .aload_n 0, 1, 0, 0, 0, [], none),
  (89, .iload_n 1, 1, 0, 0, 0, [], none),
  (90, .iload 4, 2, 0, 0, 0, [], none),
  (92, .invokevirtual 355, 3, 0, 0, 0, [], some mX9_levelAt),
  (95, .iaload, 1, 0, 0, 0, [], none),
  (96, .istore_n 2, 1, 0, 0, 0, [], none),
  (97, .iinc 4 1, 3, 0, 0, 0, [], none),
  (100, .goto (-46), 3, 0, 0, 0, [54], none),
  (103, .aload_n 0, 1, 0, 0, 0, [], none),
  (104, .iload_n 2, 1, 0, 0, 0, [], none),
  (105, .invokevirtual 255, 3, 0, 0, 0, [], some mX9_good),
  (108, .ireturn, 1, 0, 0, 0, [], none)]
set_option maxRecDepth 100000 in
theorem kX9_climax : ab_def_ok mX9_climax rX9_climax := ⟨ab_mok_of 1667 108 1665 1666 (by decide +kernel), [0, 0, 1192, 0, 1206, 0, 0, 0, 1361, 0, 0, 0, 1620, 0, 0, 0, 1361, 0, 0, 1225, 0, 0, 0, 1624, 0, 0, 0, 0, 0, 1624, 0, 0, 0, 0, 0, 0, 0, 0, 1225, 0, 0, 0, 1624, 0, 1462, 0, 0, 1462, 0, 0, 1225, 0, 0, 0, 1624, 0, 0, 0, 0, 0, 0, 1509, 0], by decide +kernel⟩
set_option maxRecDepth 100000 in
theorem vX9_climax_0 {x : ab_Cx} {d mc ms : Nat} {Post : Option ab_V → List ab_Ob → Prop} (hx : ab_At x mX9_climax d mc ms Post) (a1 : Int) (w0 : ab_Ob) (kc ks : Nat)
    (h : ((¬ (w0.1 14) = 0 → (∃ Q1 : Option ab_V → List ab_Ob → Prop, ab_Ct d 0 0 mX9_isLevel [ab_O 0, ab_I a1] [(ab_pf w0 0 0)] Q1 ∧ (∀ r2 : Int, Q1 (some (ab_I r2)) [(ab_pf w0 0 0)] → ((¬ r2 = 0 → (∃ Q3 : Option ab_V → List ab_Ob → Prop, ab_Ct d 0 0 mX9_levelAt [ab_O 0, ab_I a1, ab_I 0] [(ab_pf w0 0 0)] Q3 ∧ (∀ r4 : Int, Q3 (some (ab_I r4)) [(ab_pf w0 0 0)] → ((0 ≤ r4 ∧ r4 < (w0.2 33).1) ∧ (∃ Q5 : Option ab_V → List ab_Ob → Prop, ab_Ct d 0 0 mX9_levelAt [ab_O 0, ab_I a1, ab_I (-1)] [(ab_pf w0 0 0)] Q5 ∧ (∀ r6 : Int, Q5 (some (ab_I r6)) [(ab_pf w0 0 0)] → ab_J x 54 [some (ab_O 0), some (ab_I a1), some (ab_I ((w0.2 33).2 r4)), some (ab_I r6), some (ab_I 1)] [] [(ab_pf w0 0 0)] kc ks)))))) ∧ (r2 = 0 → (∃ Q7 : Option ab_V → List ab_Ob → Prop, ab_Ct d 0 0 mX9_refused [ab_O 0, ab_I 2] [(ab_pf w0 0 0)] Q7 ∧ (∀ r8 : Int, ∀ v9 : ab_Ob, Q7 (some (ab_I r8)) [v9] → Post (some (ab_I r8)) [v9]))))))) ∧ ((w0.1 14) = 0 → (∃ Q10 : Option ab_V → List ab_Ob → Prop, ab_Ct d 0 0 mX9_refused [ab_O 0, ab_I 1] [(ab_pf w0 0 0)] Q10 ∧ (∀ r11 : Int, ∀ v12 : ab_Ob, Q10 (some (ab_I r11)) [v12] → Post (some (ab_I r11)) [v12]))))) :
    ab_J x 0 [some (ab_O 0), some (ab_I a1), none, none, none] [] [w0] kc ks := ab_go hx kX9_climax.2 30 [(54, [true, true, true, true, true])] 0 h
set_option maxRecDepth 100000 in
theorem vX9_climax_54 {x : ab_Cx} {d mc ms : Nat} {Post : Option ab_V → List ab_Ob → Prop} (hx : ab_At x mX9_climax d mc ms Post) (l1 l2 l3 l4 : Int) (w0 : ab_Ob) (kc ks : Nat)
    (h : ((l3 ≤ l4 → (∃ Q1 : Option ab_V → List ab_Ob → Prop, ab_Ct d 0 0 mX9_good [ab_O 0, ab_I l2] [w0] Q1 ∧ (∀ r2 : Int, ∀ v3 : ab_Ob, Q1 (some (ab_I r2)) [v3] → Post (some (ab_I r2)) [v3]))) ∧ (¬ l3 ≤ l4 → (∃ Q4 : Option ab_V → List ab_Ob → Prop, ab_Ct d 0 0 mX9_levelAt [ab_O 0, ab_I l1, ab_I l4] [w0] Q4 ∧ (∀ r5 : Int, Q4 (some (ab_I r5)) [w0] → ((0 ≤ r5 ∧ r5 < (w0.2 33).1) ∧ (∃ Q6 : Option ab_V → List ab_Ob → Prop, ab_Ct d 0 0 mX9_pitchOf [ab_O 0, ab_I ((w0.2 33).2 r5)] [w0] Q6 ∧ (∀ r7 : Int, Q6 (some (ab_I r7)) [w0] → (∃ Q8 : Option ab_V → List ab_Ob → Prop, ab_Ct d 0 0 mX9_pitchOf [ab_O 0, ab_I l2] [w0] Q8 ∧ (∀ r9 : Int, Q8 (some (ab_I r9)) [w0] → ((r7 ≤ r9 → ((-2147483648 ≤ l4 + 1 ∧ l4 + 1 ≤ 2147483647) ∧ ab_J x 54 [some (ab_O 0), some (ab_I l1), some (ab_I l2), some (ab_I l3), some (ab_I (l4 + 1))] [] [w0] kc ks)) ∧ (¬ r7 ≤ r9 → (∃ Q10 : Option ab_V → List ab_Ob → Prop, ab_Ct d 0 0 mX9_levelAt [ab_O 0, ab_I l1, ab_I l4] [w0] Q10 ∧ (∀ r11 : Int, Q10 (some (ab_I r11)) [w0] → ((0 ≤ r11 ∧ r11 < (w0.2 33).1) ∧ ((-2147483648 ≤ l4 + 1 ∧ l4 + 1 ≤ 2147483647) ∧ ab_J x 54 [some (ab_O 0), some (ab_I l1), some (ab_I ((w0.2 33).2 r11)), some (ab_I l3), some (ab_I (l4 + 1))] [] [w0] kc ks)))))))))))))))) :
    ab_J x 54 [some (ab_O 0), some (ab_I l1), some (ab_I l2), some (ab_I l3), some (ab_I l4)] [] [w0] kc ks := ab_go hx kX9_climax.2 31 [(54, [true, true, true, true, true])] 54 h
def mX9_levelPitch : ab_M := ((yX9_levelPitch, cX9_levelPitch, 3, (some .int)), ([9], [(0, 0)], [false], false, false, 0), (false, 9, 2))
def rX9_levelPitch : List ab_R := [(0, .aload_n 0, 1, 0, 0, 0, [], none),
  (1, .aload_n 0, 1, 0, 0, 0, [], none),
  (2, .getfield 52, 3, 9, 33, 0, [], none),
  (5, .aload_n 0, 1, 0, 0, 0, [], none),
  (6, .iload_n 1, 1, 0, 0, 0, [], none),
  (7, .iload_n 2, 1, 0, 0, 0, [], none),
  (8, .invokevirtual 355, 3, 0, 0, 0, [], some mX9_levelAt),
  (11, .iaload, 1, 0, 0, 0, [], none),
  (12, .invokevirtual 264, 3, 0, 0, 0, [], some mX9_pitchOf),
  (15, .ireturn, 1, 0, 0, 0, [], none)]
set_option maxRecDepth 100000 in
theorem kX9_levelPitch : ab_def_ok mX9_levelPitch rX9_levelPitch := ⟨ab_mok_of 1675 108 1674 89 (by decide +kernel), [0, 0, 1225, 0, 0, 0, 1624, 0, 1462, 0], by decide +kernel⟩
set_option maxRecDepth 100000 in
theorem vX9_levelPitch_0 {x : ab_Cx} {d mc ms : Nat} {Post : Option ab_V → List ab_Ob → Prop} (hx : ab_At x mX9_levelPitch d mc ms Post) (a1 a2 : Int) (w0 : ab_Ob) (kc ks : Nat)
    (h : (∃ Q1 : Option ab_V → List ab_Ob → Prop, ab_Ct d 0 0 mX9_levelAt [ab_O 0, ab_I a1, ab_I a2] [w0] Q1 ∧ (∀ r2 : Int, Q1 (some (ab_I r2)) [w0] → ((0 ≤ r2 ∧ r2 < (w0.2 33).1) ∧ (∃ Q3 : Option ab_V → List ab_Ob → Prop, ab_Ct d 0 0 mX9_pitchOf [ab_O 0, ab_I ((w0.2 33).2 r2)] [w0] Q3 ∧ (∀ r4 : Int, Q3 (some (ab_I r4)) [w0] → Post (some (ab_I r4)) [w0])))))) :
    ab_J x 0 [some (ab_O 0), some (ab_I a1), some (ab_I a2)] [] [w0] kc ks := ab_go hx kX9_levelPitch.2 14 [] 0 h
def mX9_widest : ab_M := ((yX9_widest, cX9_widest, 5, (some .int)), ([9], [(0, 0)], [true], false, false, 0), (false, 9, 1))
def rX9_widest : List ab_R := [(0, .aload_n 0, 1, 0, 0, 0, [], none),
  (1, .iconst 0, 1, 0, 0, 0, [], none),
  (2, .putfield 100, 3, 9, 0, 0, [], none),
  (5, .aload_n 0, 1, 0, 0, 0, [], none),
  (6, .getfield 235, 3, 9, 14, 0, [], none),
  (9, .ifCond .ne 9, 3, 0, 0, 0, [18], none),
  (12, .aload_n 0, 1, 0, 0, 0, [], none),
  (13, .iconst 1, 1, 0, 0, 0, [], none),
  (14, .invokevirtual 229, 3, 0, 0, 0, [], some mX9_refused),
  (17, .ireturn, 1, 0, 0, 0, [], none),
  (18, .aload_n 0, 1, 0, 0, 0, [], none),
  (19, .iload_n 1, 1, 0, 0, 0, [], none),
  (20, .invokevirtual 352, 3, 0, 0, 0, [], some mX9_isLevel),
  (23, .ifCond .ne 9, 3, 0, 0, 0, [32], none),
  (26, .aload_n 0, 1, 0, 0, 0, [], none),
  (27, .iconst 2, 1, 0, 0, 0, [], none),
  (28, .invokevirtual 229, 3, 0, 0, 0, [], some mX9_refused),
  (31, .ireturn, 1, 0, 0, 0, [], none),
  (32, .iconst 0, 1, 0, 0, 0, [], none),
  (33, .istore_n 2, 1, 0, 0, 0, [], none),
  (34, .aload_n 0, 1, 0, 0, 0, [], none),
  (35, .iload_n 1, 1, 0, 0, 0, [], none),
  (36, .iconst (-1), 1, 0, 0, 0, [], none),
  (37, .invokevirtual 355, 3, 0, 0, 0, [], some mX9_levelAt),
  (40, .istore_n 3, 1, 0, 0, 0, [], none),
  (41, .iconst 1, 1, 0, 0, 0, [], none),
  (42, .istore 4, 2, 0, 0, 0, [], none),
  (44, .iload 4, 2, 0, 0, 0, [], none),
  (46, .iload_n 3, 1, 0, 0, 0, [], none),
  (47, .if_icmp .ge 52, 3, 0, 0, 0, [99], none),
  (50, .aload_n 0, 1, 0, 0, 0, [], none),
  (51, .iload_n 1, 1, 0, 0, 0, [], none),
  (52, .iload 4, 2, 0, 0, 0, [], none),
  (54, .invokevirtual 367, 3, 0, 0, 0, [], some mX9_levelPitch),
  (57, .aload_n 0, 1, 0, 0, 0, [], none),
  (58, .iload_n 1, 1, 0, 0, 0, [], none),
  (59, .iload 4, 2, 0, 0, 0, [], none),
  (61, .iconst 1, 1, 0, 0, 0, [], none),
  (62, .isub, 1, 0, 0, 0, [], none),
  (63, .invokevirtual 367, 3, 0, 0, 0, [], some mX9_levelPitch),
  (66, .invokestatic 270, 3, 0, 0, 0, [], some mX9_apart),
  (69, .iload_n 2, 1, 0, 0, 0, [], none),
  (70, .if_icmp .le 23, 3, 0, 0, 0, [93], none),
  (73, .aload_n 0, 1, 0, 0, 0, [], none),
  (74, .iload_n 1, 1, 0, 0, 0, [], none),
  (75, .iload 4, 2, 0, 0, 0, [], none),
  (77, .invokevirtual 367, 3, 0, 0, 0, [], some mX9_levelPitch),
  (80, .aload_n 0, 1, 0, 0, 0, [], none),
  (81, .iload_n 1, 1, 0, 0, 0, [], none),
  (82, .iload 4, 2, 0, 0, 0, [], none),
  (84, .iconst 1, 1, 0, 0, 0, [], none),
  (85, .isub, 1, 0, 0, 0, [], none),
  (86, .invokevirtual 367, 3, 0, 0, 0, [], some mX9_levelPitch),
  (89, .invokestatic 270, 3, 0, 0, 0, [], some mX9_apart),
  (92, .istore_n 2, 1, 0, 0, 0, [], none),
  (93, .iinc 4 1, 3, 0, 0, 0, [], none),
  (96, .goto (-52), 3, 0, 0, 0, [44], none),
  (99, .aload_n 0, 1, 0, 0, 0, [], none),
  (100, .iload_n 2, 1, 0, 0, 0, [], none),
  (101, .invokevirtual 255, 3, 0, 0, 0, [], some mX9_good),
  (104, .ireturn, 1, 0, 0, 0, [], none)]
set_option maxRecDepth 100000 in
theorem kX9_widest : ab_def_ok mX9_widest rX9_widest := ⟨ab_mok_of 1671 108 1669 1670 (by decide +kernel), [0, 0, 1192, 0, 1206, 0, 0, 0, 1361, 0, 0, 0, 1620, 0, 0, 0, 1361, 0, 0, 0, 0, 0, 0, 1624, 0, 0, 0, 0, 0, 0, 0, 0, 0, 1672, 0, 0, 0, 0, 0, 1672, 1493, 0, 0, 0, 0, 0, 1672, 0, 0, 0, 0, 0, 1672, 1493, 0, 0, 0, 0, 0, 1509, 0], by decide +kernel⟩
set_option maxRecDepth 100000 in
theorem vX9_widest_0 {x : ab_Cx} {d mc ms : Nat} {Post : Option ab_V → List ab_Ob → Prop} (hx : ab_At x mX9_widest d mc ms Post) (a1 : Int) (w0 : ab_Ob) (kc ks : Nat)
    (h : ((¬ (w0.1 14) = 0 → (∃ Q1 : Option ab_V → List ab_Ob → Prop, ab_Ct d 0 0 mX9_isLevel [ab_O 0, ab_I a1] [(ab_pf w0 0 0)] Q1 ∧ (∀ r2 : Int, Q1 (some (ab_I r2)) [(ab_pf w0 0 0)] → ((¬ r2 = 0 → (∃ Q3 : Option ab_V → List ab_Ob → Prop, ab_Ct d 0 0 mX9_levelAt [ab_O 0, ab_I a1, ab_I (-1)] [(ab_pf w0 0 0)] Q3 ∧ (∀ r4 : Int, Q3 (some (ab_I r4)) [(ab_pf w0 0 0)] → ab_J x 44 [some (ab_O 0), some (ab_I a1), some (ab_I 0), some (ab_I r4), some (ab_I 1)] [] [(ab_pf w0 0 0)] kc ks))) ∧ (r2 = 0 → (∃ Q5 : Option ab_V → List ab_Ob → Prop, ab_Ct d 0 0 mX9_refused [ab_O 0, ab_I 2] [(ab_pf w0 0 0)] Q5 ∧ (∀ r6 : Int, ∀ v7 : ab_Ob, Q5 (some (ab_I r6)) [v7] → Post (some (ab_I r6)) [v7]))))))) ∧ ((w0.1 14) = 0 → (∃ Q8 : Option ab_V → List ab_Ob → Prop, ab_Ct d 0 0 mX9_refused [ab_O 0, ab_I 1] [(ab_pf w0 0 0)] Q8 ∧ (∀ r9 : Int, ∀ v10 : ab_Ob, Q8 (some (ab_I r9)) [v10] → Post (some (ab_I r9)) [v10]))))) :
    ab_J x 0 [some (ab_O 0), some (ab_I a1), none, none, none] [] [w0] kc ks := ab_go hx kX9_widest.2 24 [(44, [true, true, true, true, true])] 0 h
set_option maxRecDepth 100000 in
theorem vX9_widest_44 {x : ab_Cx} {d mc ms : Nat} {Post : Option ab_V → List ab_Ob → Prop} (hx : ab_At x mX9_widest d mc ms Post) (l1 l2 l3 l4 : Int) (w0 : ab_Ob) (kc ks : Nat)
    (h : ((l3 ≤ l4 → (∃ Q1 : Option ab_V → List ab_Ob → Prop, ab_Ct d 0 0 mX9_good [ab_O 0, ab_I l2] [w0] Q1 ∧ (∀ r2 : Int, ∀ v3 : ab_Ob, Q1 (some (ab_I r2)) [v3] → Post (some (ab_I r2)) [v3]))) ∧ (¬ l3 ≤ l4 → (∃ Q4 : Option ab_V → List ab_Ob → Prop, ab_Ct d 0 0 mX9_levelPitch [ab_O 0, ab_I l1, ab_I l4] [w0] Q4 ∧ (∀ r5 : Int, Q4 (some (ab_I r5)) [w0] → ((-2147483648 ≤ l4 - 1 ∧ l4 - 1 ≤ 2147483647) ∧ (∃ Q6 : Option ab_V → List ab_Ob → Prop, ab_Ct d 0 0 mX9_levelPitch [ab_O 0, ab_I l1, ab_I (l4 - 1)] [w0] Q6 ∧ (∀ r7 : Int, Q6 (some (ab_I r7)) [w0] → (∃ Q8 : Option ab_V → List ab_Ob → Prop, ab_Ct d 0 0 mX9_apart [ab_I r5, ab_I r7] [] Q8 ∧ (∀ r9 : Int, Q8 (some (ab_I r9)) [] → ((r9 ≤ l2 → ((-2147483648 ≤ l4 + 1 ∧ l4 + 1 ≤ 2147483647) ∧ ab_J x 44 [some (ab_O 0), some (ab_I l1), some (ab_I l2), some (ab_I l3), some (ab_I (l4 + 1))] [] [w0] kc ks)) ∧ (¬ r9 ≤ l2 → (∃ Q10 : Option ab_V → List ab_Ob → Prop, ab_Ct d 0 0 mX9_levelPitch [ab_O 0, ab_I l1, ab_I l4] [w0] Q10 ∧ (∀ r11 : Int, Q10 (some (ab_I r11)) [w0] → ((-2147483648 ≤ l4 - 1 ∧ l4 - 1 ≤ 2147483647) ∧ (∃ Q12 : Option ab_V → List ab_Ob → Prop, ab_Ct d 0 0 mX9_levelPitch [ab_O 0, ab_I l1, ab_I (l4 - 1)] [w0] Q12 ∧ (∀ r13 : Int, Q12 (some (ab_I r13)) [w0] → (∃ Q14 : Option ab_V → List ab_Ob → Prop, ab_Ct d 0 0 mX9_apart [ab_I r11, ab_I r13] [] Q14 ∧ (∀ r15 : Int, Q14 (some (ab_I r15)) [] → ((-2147483648 ≤ l4 + 1 ∧ l4 + 1 ≤ 2147483647) ∧ ab_J x 44 [some (ab_O 0), some (ab_I l1), some (ab_I r15), some (ab_I l3), some (ab_I (l4 + 1))] [] [w0] kc ks)))))))))))))))))))) :
    ab_J x 44 [some (ab_O 0), some (ab_I l1), some (ab_I l2), some (ab_I l3), some (ab_I l4)] [] [w0] kc ks := ab_go hx kX9_widest.2 35 [(44, [true, true, true, true, true])] 44 h
def mX9_echo : ab_M := ((yX9_echo, cX9_echo, 9, (some .int)), ([9], [(0, 0)], [true], false, false, 0), (false, 9, 2))
def rX9_echo : List ab_R := [(0, .aload_n 0, 1, 0, 0, 0, [], none),
  (1, .iconst 0, 1, 0, 0, 0, [], none),
  (2, .putfield 100, 3, 9, 0, 0, [], none),
  (5, .aload_n 0, 1, 0, 0, 0, [], none),
  (6, .getfield 235, 3, 9, 14, 0, [], none),
  (9, .ifCond .ne 9, 3, 0, 0, 0, [18], none),
  (12, .aload_n 0, 1, 0, 0, 0, [], none),
  (13, .iconst 1, 1, 0, 0, 0, [], none),
  (14, .invokevirtual 229, 3, 0, 0, 0, [], some mX9_refused),
  (17, .ireturn, 1, 0, 0, 0, [], none),
  (18, .aload_n 0, 1, 0, 0, 0, [], none),
  (19, .iload_n 1, 1, 0, 0, 0, [], none),
  (20, .invokevirtual 352, 3, 0, 0, 0, [], some mX9_isLevel),
  (23, .ifCond .eq 11, 3, 0, 0, 0, [34], none),
  (26, .aload_n 0, 1, 0, 0, 0, [], none),
  (27, .iload_n 2, 1, 0, 0, 0, [], none),
  (28, .invokevirtual 352, 3, 0, 0, 0, [], some mX9_isLevel),
  (31, .ifCond .ne 9, 3, 0, 0, 0, [40], none),
  (34, .aload_n 0, 1, 0, 0, 0, [], none),
  (35, .iconst 2, 1, 0, 0, 0, [], none),
  (36, .invokevirtual 229, 3, 0, 0, 0, [], some mX9_refused),
  (39, .ireturn, 1, 0, 0, 0, [], none),
  (40, .aload_n 0, 1, 0, 0, 0, [], none),
  (41, .iload_n 1, 1, 0, 0, 0, [], none),
  (42, .iconst (-1), 1, 0, 0, 0, [], none),
  (43, .invokevirtual 355, 3, 0, 0, 0, [], some mX9_levelAt),
  (46, .istore_n 3, 1, 0, 0, 0, [], none),
  (47, .aload_n 0, 1, 0, 0, 0, [], none),
  (48, .iload_n 2, 1, 0, 0, 0, [], none),
  (49, .iconst (-1), 1, 0, 0, 0, [], none),
  (50, .invokevirtual 355, 3, 0, 0, 0, [], some mX9_levelAt),
  (53, .istore 4, 2, 0, 0, 0, [], none),
  (55, .iconst 0, 1, 0, 0, 0, [], none),
  (56, .istore 5, 2, 0, 0, 0, [], none),
  (58, .iconst 0, 1, 0, 0, 0, [], none),
  (59, .istore 6, 2, 0, 0, 0, [], none),
  (61, .iload 6, 2, 0, 0, 0, [], none),
  (63, .iload_n 3, 1, 0, 0, 0, [], none),
  (64, .iadd, 1, 0, 0, 0, [], none),
  (65, .iload 4, 2, 0, 0, 0, [], none),
  (67, .if_icmp .gt 97, 3, 0, 0, 0, [164], none),
  (70, .iconst 1, 1, 0, 0, 0, [], none),
  (71, .istore 7, 2, 0, 0, 0, [], none),
  (73, .iconst 1, 1, 0, 0, 0, [], none),
  (74, .istore 8, 2, 0, 0, 0, [], none),
  (76, .iload 7, 2, 0, 0, 0, [], none),
  (78, .ifCond .eq 65, 3, 0, 0, 0, [143], none),
  (81, .iload 8, 2, 0, 0, 0, [], none),
  (83, .iload_n 3, 1, 0, 0, 0, [], none),
  (84, .if_icmp .ge 59, 3, 0, 0, 0, [143], none),
  (87, .aload_n 0, 1, 0, 0, 0, [], none),
  (88, .iload_n 1, 1, 0, 0, 0, [], none),
  (89, .iload 8, 2, 0, 0, 0, [], none),
  (91, .invokevirtual 367, 3, 0, 0, 0, [], some mX9_levelPitch),
  (94, .aload_n 0, 1, 0, 0, 0, [], none),
  (95, .iload_n 1, 1, 0, 0, 0, [], none),
  (96, .iload 8, 2, 0, 0, 0, [], none),
  (98, .iconst 1, 1, 0, 0, 0, [], none),
  (99, .isub, 1, 0, 0, 0, [], none),
  (100, .invokevirtual 367, 3, 0, 0, 0, [], some mX9_levelPitch),
  (103, .isub, 1, 0, 0, 0, [], none),
  (104, .aload_n 0, 1, 0, 0, 0, [], none),
  (105, .iload_n 2, 1, 0, 0, 0, [], none),
  (106, .iload 6, 2, 0, 0, 0, [], none),
  (108, .iload 8, 2, 0, 0, 0, [], none),
  (110, .iadd, 1, 0, 0, 0, [], none),
  (111, .invokevirtual 367, 3, 0, 0, 0, [], some mX9_levelPitch),
  (114, .aload_n 0, 1, 0, 0, 0, [], none),
  (115, .iload_n 2, 1, 0, 0, 0, [], none),
  (116, .iload 6, 2, 0, 0, 0, [], none),
  (118, .iload 8, 2, 0, 0, 0, [], none),
  (120, .iadd, 1, 0, 0, 0, [], none),
  (121, .iconst 1, 1, 0, 0, 0, [], none),
  (122, .isub, 1, 0, 0, 0, [], none),
  (123, .invokevirtual 367, 3, 0, 0, 0, [], some mX9_levelPitch),
  (126, .isub, 1, 0, 0, 0, [], none),
  (127, .if_icmp .ne 7, 3, 0, 0, 0, [134], none),
  (130, .iconst 1, 1, 0, 0, 0, [], none),
  (131, .goto 4, 3, 0, 0, 0, [135], none),
  (134, .iconst 0, 1, 0, 0, 0, [], none),
  (135, .istore 7, 2, 0, 0, 0, [], none),
  (137, .iinc 8 1, 3, 0, 0, 0, [], none),
  (140, .goto (-64), 3, 0, 0, 0, [76], none),
  (143, .iload 5, 2, 0, 0, 0, [], none),
  (145, .iload 7, 2, 0, 0, 0, [], none),
  (147, .ifCond .eq 7, 3, 0, 0, 0, [154], none),
  (150, .iconst 1, 1, 0, 0, 0, [], none),
  (151, .goto 4, 3, 0, 0, 0, [155], none),
  (154, .iconst 0, 1, 0, 0, 0, [], none),
  (155, .iadd, 1, 0, 0, 0, [], none),
  (156, .istore 5, 2, 0, 0, 0, [], none),
  (158, .iinc 6 1, 3, 0, 0, 0, [], none),
  (161, .goto (-100), 3, 0, 0, 0, [61], none),
  (164, .aload_n 0, 1, 0, 0, 0, [], none),
  (165, .iload 5, 2, 0, 0, 0, [], none),
  (167, .invokevirtual 255, 3, 0, 0, 0, [], some mX9_good),
  (170, .ireturn, 1, 0, 0, 0, [], none)]
set_option maxRecDepth 100000 in
theorem kX9_echo : ab_def_ok mX9_echo rX9_echo := ⟨ab_mok_of 1679 108 1677 1678 (by decide +kernel), [0, 0, 1192, 0, 1206, 0, 0, 0, 1361, 0, 0, 0, 1620, 0, 0, 0, 1620, 0, 0, 0, 1361, 0, 0, 0, 0, 1624, 0, 0, 0, 0, 1624, 0, 0, 0, 0, 0, 0, 0, 0, 0, 0, 0, 0, 0, 0, 0, 0, 0, 0, 0, 0, 0, 0, 1672, 0, 0, 0, 0, 0, 1672, 0, 0, 0, 0, 0, 0, 1672, 0, 0, 0, 0, 0, 0, 0, 1672, 0, 0, 0, 0, 0, 0, 0, 0, 0, 0, 0, 0, 0, 0, 0, 0, 0, 0, 0, 0, 1509, 0], by decide +kernel⟩
set_option maxRecDepth 100000 in
theorem vX9_echo_0 {x : ab_Cx} {d mc ms : Nat} {Post : Option ab_V → List ab_Ob → Prop} (hx : ab_At x mX9_echo d mc ms Post) (a1 a2 : Int) (w0 : ab_Ob) (kc ks : Nat)
    (h : ((¬ (w0.1 14) = 0 → (∃ Q1 : Option ab_V → List ab_Ob → Prop, ab_Ct d 0 0 mX9_isLevel [ab_O 0, ab_I a1] [(ab_pf w0 0 0)] Q1 ∧ (∀ r2 : Int, Q1 (some (ab_I r2)) [(ab_pf w0 0 0)] → ((r2 = 0 → (∃ Q3 : Option ab_V → List ab_Ob → Prop, ab_Ct d 0 0 mX9_refused [ab_O 0, ab_I 2] [(ab_pf w0 0 0)] Q3 ∧ (∀ r4 : Int, ∀ v5 : ab_Ob, Q3 (some (ab_I r4)) [v5] → Post (some (ab_I r4)) [v5]))) ∧ (¬ r2 = 0 → (∃ Q6 : Option ab_V → List ab_Ob → Prop, ab_Ct d 0 0 mX9_isLevel [ab_O 0, ab_I a2] [(ab_pf w0 0 0)] Q6 ∧ (∀ r7 : Int, Q6 (some (ab_I r7)) [(ab_pf w0 0 0)] → ((¬ r7 = 0 → (∃ Q8 : Option ab_V → List ab_Ob → Prop, ab_Ct d 0 0 mX9_levelAt [ab_O 0, ab_I a1, ab_I (-1)] [(ab_pf w0 0 0)] Q8 ∧ (∀ r9 : Int, Q8 (some (ab_I r9)) [(ab_pf w0 0 0)] → (∃ Q10 : Option ab_V → List ab_Ob → Prop, ab_Ct d 0 0 mX9_levelAt [ab_O 0, ab_I a2, ab_I (-1)] [(ab_pf w0 0 0)] Q10 ∧ (∀ r11 : Int, Q10 (some (ab_I r11)) [(ab_pf w0 0 0)] → ab_J x 61 [some (ab_O 0), some (ab_I a1), some (ab_I a2), some (ab_I r9), some (ab_I r11), some (ab_I 0), some (ab_I 0), none, none] [] [(ab_pf w0 0 0)] kc ks))))) ∧ (r7 = 0 → (∃ Q12 : Option ab_V → List ab_Ob → Prop, ab_Ct d 0 0 mX9_refused [ab_O 0, ab_I 2] [(ab_pf w0 0 0)] Q12 ∧ (∀ r13 : Int, ∀ v14 : ab_Ob, Q12 (some (ab_I r13)) [v14] → Post (some (ab_I r13)) [v14]))))))))))) ∧ ((w0.1 14) = 0 → (∃ Q15 : Option ab_V → List ab_Ob → Prop, ab_Ct d 0 0 mX9_refused [ab_O 0, ab_I 1] [(ab_pf w0 0 0)] Q15 ∧ (∀ r16 : Int, ∀ v17 : ab_Ob, Q15 (some (ab_I r16)) [v17] → Post (some (ab_I r16)) [v17]))))) :
    ab_J x 0 [some (ab_O 0), some (ab_I a1), some (ab_I a2), none, none, none, none, none, none] [] [w0] kc ks := ab_go hx kX9_echo.2 33 [(61, [true, true, true, true, true, true, true, false, false]), (76, [true, true, true, true, true, true, true, true, true])] 0 h
set_option maxRecDepth 100000 in
theorem vX9_echo_61 {x : ab_Cx} {d mc ms : Nat} {Post : Option ab_V → List ab_Ob → Prop} (hx : ab_At x mX9_echo d mc ms Post) (l1 l2 l3 l4 l5 l6 : Int) (w0 : ab_Ob) (kc ks : Nat)
    (h : ((-2147483648 ≤ l6 + l3 ∧ l6 + l3 ≤ 2147483647) ∧ ((l4 < (l6 + l3) → (∃ Q1 : Option ab_V → List ab_Ob → Prop, ab_Ct d 0 0 mX9_good [ab_O 0, ab_I l5] [w0] Q1 ∧ (∀ r2 : Int, ∀ v3 : ab_Ob, Q1 (some (ab_I r2)) [v3] → Post (some (ab_I r2)) [v3]))) ∧ (¬ l4 < (l6 + l3) → ab_J x 76 [some (ab_O 0), some (ab_I l1), some (ab_I l2), some (ab_I l3), some (ab_I l4), some (ab_I l5), some (ab_I l6), some (ab_I 1), some (ab_I 1)] [] [w0] kc ks)))) :
    ab_J x 61 [some (ab_O 0), some (ab_I l1), some (ab_I l2), some (ab_I l3), some (ab_I l4), some (ab_I l5), some (ab_I l6), none, none] [] [w0] kc ks := ab_go hx kX9_echo.2 14 [(61, [true, true, true, true, true, true, true, false, false]), (76, [true, true, true, true, true, true, true, true, true])] 61 h
set_option maxRecDepth 100000 in
theorem vX9_echo_76 {x : ab_Cx} {d mc ms : Nat} {Post : Option ab_V → List ab_Ob → Prop} (hx : ab_At x mX9_echo d mc ms Post) (l1 l2 l3 l4 l5 l6 l7 l8 : Int) (w0 : ab_Ob) (kc ks : Nat)
    (h : ((l7 = 0 → ((l7 = 0 → ((-2147483648 ≤ l5 + 0 ∧ l5 + 0 ≤ 2147483647) ∧ ((-2147483648 ≤ l6 + 1 ∧ l6 + 1 ≤ 2147483647) ∧ ab_J x 61 [some (ab_O 0), some (ab_I l1), some (ab_I l2), some (ab_I l3), some (ab_I l4), some (ab_I (l5 + 0)), some (ab_I (l6 + 1)), none, none] [] [w0] kc ks))) ∧ (¬ l7 = 0 → ((-2147483648 ≤ l5 + 1 ∧ l5 + 1 ≤ 2147483647) ∧ ((-2147483648 ≤ l6 + 1 ∧ l6 + 1 ≤ 2147483647) ∧ ab_J x 61 [some (ab_O 0), some (ab_I l1), some (ab_I l2), some (ab_I l3), some (ab_I l4), some (ab_I (l5 + 1)), some (ab_I (l6 + 1)), none, none] [] [w0] kc ks))))) ∧ (¬ l7 = 0 → ((l3 ≤ l8 → ((l7 = 0 → ((-2147483648 ≤ l5 + 0 ∧ l5 + 0 ≤ 2147483647) ∧ ((-2147483648 ≤ l6 + 1 ∧ l6 + 1 ≤ 2147483647) ∧ ab_J x 61 [some (ab_O 0), some (ab_I l1), some (ab_I l2), some (ab_I l3), some (ab_I l4), some (ab_I (l5 + 0)), some (ab_I (l6 + 1)), none, none] [] [w0] kc ks))) ∧ (¬ l7 = 0 → ((-2147483648 ≤ l5 + 1 ∧ l5 + 1 ≤ 2147483647) ∧ ((-2147483648 ≤ l6 + 1 ∧ l6 + 1 ≤ 2147483647) ∧ ab_J x 61 [some (ab_O 0), some (ab_I l1), some (ab_I l2), some (ab_I l3), some (ab_I l4), some (ab_I (l5 + 1)), some (ab_I (l6 + 1)), none, none] [] [w0] kc ks))))) ∧ (¬ l3 ≤ l8 → (∃ Q1 : Option ab_V → List ab_Ob → Prop, ab_Ct d 0 0 mX9_levelPitch [ab_O 0, ab_I l1, ab_I l8] [w0] Q1 ∧ (∀ r2 : Int, Q1 (some (ab_I r2)) [w0] → ((-2147483648 ≤ l8 - 1 ∧ l8 - 1 ≤ 2147483647) ∧ (∃ Q3 : Option ab_V → List ab_Ob → Prop, ab_Ct d 0 0 mX9_levelPitch [ab_O 0, ab_I l1, ab_I (l8 - 1)] [w0] Q3 ∧ (∀ r4 : Int, Q3 (some (ab_I r4)) [w0] → ((-2147483648 ≤ r2 - r4 ∧ r2 - r4 ≤ 2147483647) ∧ ((-2147483648 ≤ l6 + l8 ∧ l6 + l8 ≤ 2147483647) ∧ (∃ Q5 : Option ab_V → List ab_Ob → Prop, ab_Ct d 0 0 mX9_levelPitch [ab_O 0, ab_I l2, ab_I (l6 + l8)] [w0] Q5 ∧ (∀ r6 : Int, Q5 (some (ab_I r6)) [w0] → ((-2147483648 ≤ l6 + l8 ∧ l6 + l8 ≤ 2147483647) ∧ ((-2147483648 ≤ (l6 + l8) - 1 ∧ (l6 + l8) - 1 ≤ 2147483647) ∧ (∃ Q7 : Option ab_V → List ab_Ob → Prop, ab_Ct d 0 0 mX9_levelPitch [ab_O 0, ab_I l2, ab_I ((l6 + l8) - 1)] [w0] Q7 ∧ (∀ r8 : Int, Q7 (some (ab_I r8)) [w0] → ((-2147483648 ≤ r6 - r8 ∧ r6 - r8 ≤ 2147483647) ∧ ((¬ (r2 - r4) = (r6 - r8) → ((-2147483648 ≤ l8 + 1 ∧ l8 + 1 ≤ 2147483647) ∧ ab_J x 76 [some (ab_O 0), some (ab_I l1), some (ab_I l2), some (ab_I l3), some (ab_I l4), some (ab_I l5), some (ab_I l6), some (ab_I 0), some (ab_I (l8 + 1))] [] [w0] kc ks)) ∧ ((r2 - r4) = (r6 - r8) → ((-2147483648 ≤ l8 + 1 ∧ l8 + 1 ≤ 2147483647) ∧ ab_J x 76 [some (ab_O 0), some (ab_I l1), some (ab_I l2), some (ab_I l3), some (ab_I l4), some (ab_I l5), some (ab_I l6), some (ab_I 1), some (ab_I (l8 + 1))] [] [w0] kc ks)))))))))))))))))))))) :
    ab_J x 76 [some (ab_O 0), some (ab_I l1), some (ab_I l2), some (ab_I l3), some (ab_I l4), some (ab_I l5), some (ab_I l6), some (ab_I l7), some (ab_I l8)] [] [w0] kc ks := ab_go hx kX9_echo.2 42 [(61, [true, true, true, true, true, true, true, false, false]), (76, [true, true, true, true, true, true, true, true, true])] 76 h
