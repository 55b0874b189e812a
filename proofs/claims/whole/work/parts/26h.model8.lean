def mX9_remembers : ab_M := ((yX9_remembers, cX9_remembers, 2, none), ([9], [(0, 0)], [true], false, false, 0), (false, 9, 0))
def rX9_remembers : List ab_R := [(0, .aload_n 0, 1, 0, 0, 0, [], none),
  (1, .getfield 249, 3, 9, 9, 0, [], none),
  (4, .bipush 10, 2, 0, 0, 0, [], none),
  (6, .if_icmp .ne 44, 3, 0, 0, 0, [50], none),
  (9, .bipush 55, 2, 0, 0, 0, [], none),
  (11, .istore_n 1, 1, 0, 0, 0, [], none),
  (12, .iload_n 1, 1, 0, 0, 0, [], none),
  (13, .sipush 550, 3, 0, 0, 0, [], none),
  (16, .if_icmp .ge 24, 3, 0, 0, 0, [40], none),
  (19, .aload_n 0, 1, 0, 0, 0, [], none),
  (20, .getfield 20, 3, 9, 5, 0, [], none),
  (23, .iload_n 1, 1, 0, 0, 0, [], none),
  (24, .bipush 55, 2, 0, 0, 0, [], none),
  (26, .isub, 1, 0, 0, 0, [], none),
  (27, .aload_n 0, 1, 0, 0, 0, [], none),
  (28, .getfield 20, 3, 9, 5, 0, [], none),
  (31, .iload_n 1, 1, 0, 0, 0, [], none),
  (32, .iaload, 1, 0, 0, 0, [], none),
  (33, .iastore, 1, 0, 0, 0, [], none),
  (34, .iinc 1 1, 3, 0, 0, 0, [], none),
  (37, .goto (-25), 3, 0, 0, 0, [12], none),
  (40, .aload_n 0, 1, 0, 0, 0, [], none),
  (41, .dup, 1, 0, 0, 0, [], none),
  (42, .getfield 249, 3, 9, 9, 0, [], none),
  (45, .iconst 1, 1, 0, 0, 0, [], none),
  (46, .isub, 1, 0, 0, 0, [], none),
  (47, .putfield 249, 3, 9, 9, 0, [], none),
  (50, .iconst 0, 1, 0, 0, 0, [], none),
  (51, .istore_n 1, 1, 0, 0, 0, [], none),
  (52, .iload_n 1, 1, 0, 0, 0, [], none),
  (53, .bipush 55, 2, 0, 0, 0, [], none),
  (55, .if_icmp .ge 29, 3, 0, 0, 0, [84], none),
  (58, .aload_n 0, 1, 0, 0, 0, [], none),
  (59, .getfield 20, 3, 9, 5, 0, [], none),
  (62, .bipush 55, 2, 0, 0, 0, [], none),
  (64, .aload_n 0, 1, 0, 0, 0, [], none),
  (65, .getfield 249, 3, 9, 9, 0, [], none),
  (68, .imul, 1, 0, 0, 0, [], none),
  (69, .iload_n 1, 1, 0, 0, 0, [], none),
  (70, .iadd, 1, 0, 0, 0, [], none),
  (71, .aload_n 0, 1, 0, 0, 0, [], none),
  (72, .getfield 13, 3, 9, 3, 0, [], none),
  (75, .iload_n 1, 1, 0, 0, 0, [], none),
  (76, .iaload, 1, 0, 0, 0, [], none),
  (77, .iastore, 1, 0, 0, 0, [], none),
  (78, .iinc 1 1, 3, 0, 0, 0, [], none),
  (81, .goto (-29), 3, 0, 0, 0, [52], none),
  (84, .aload_n 0, 1, 0, 0, 0, [], none),
  (85, .dup, 1, 0, 0, 0, [], none),
  (86, .getfield 249, 3, 9, 9, 0, [], none),
  (89, .iconst 1, 1, 0, 0, 0, [], none),
  (90, .iadd, 1, 0, 0, 0, [], none),
  (91, .putfield 249, 3, 9, 9, 0, [], none),
  (94, .return_, 1, 0, 0, 0, [], none)]
set_option maxRecDepth 100000 in
theorem kX9_remembers : ab_def_ok mX9_remembers rX9_remembers := ⟨ab_mok_of 1751 108 1750 97 (by decide +kernel), [0, 1201, 0, 0, 0, 0, 0, 0, 0, 0, 1197, 0, 0, 0, 0, 1197, 0, 0, 0, 0, 0, 0, 0, 1201, 0, 0, 1201, 0, 0, 0, 0, 0, 0, 1197, 0, 0, 1201, 0, 0, 0, 0, 1195, 0, 0, 0, 0, 0, 0, 0, 1201, 0, 0, 1201, 0], by decide +kernel⟩
set_option maxRecDepth 100000 in
theorem vX9_remembers_0 {x : ab_Cx} {d mc ms : Nat} {Post : Option ab_V → List ab_Ob → Prop} (hx : ab_At x mX9_remembers d mc ms Post) (w0 : ab_Ob) (kc ks : Nat)
    (h : ((¬ (w0.1 9) = 10 → ab_J x 52 [some (ab_O 0), some (ab_I 0)] [] [w0] kc ks) ∧ ((w0.1 9) = 10 → ab_J x 12 [some (ab_O 0), some (ab_I 55)] [] [w0] kc ks))) :
    ab_J x 0 [some (ab_O 0), none] [] [w0] kc ks := ab_go hx kX9_remembers.2 11 [(12, [true, true]), (52, [true, true])] 0 h
set_option maxRecDepth 100000 in
theorem vX9_remembers_52 {x : ab_Cx} {d mc ms : Nat} {Post : Option ab_V → List ab_Ob → Prop} (hx : ab_At x mX9_remembers d mc ms Post) (l1 : Int) (w0 : ab_Ob) (kc ks : Nat)
    (h : ((55 ≤ l1 → ((-2147483648 ≤ (w0.1 9) + 1 ∧ (w0.1 9) + 1 ≤ 2147483647) ∧ Post none [(ab_pf w0 9 ((w0.1 9) + 1))])) ∧ (¬ 55 ≤ l1 → ((-2147483648 ≤ 55 * (w0.1 9) ∧ 55 * (w0.1 9) ≤ 2147483647) ∧ ((-2147483648 ≤ (55 * (w0.1 9)) + l1 ∧ (55 * (w0.1 9)) + l1 ≤ 2147483647) ∧ ((0 ≤ l1 ∧ l1 < (w0.2 3).1) ∧ ((0 ≤ ((55 * (w0.1 9)) + l1) ∧ ((55 * (w0.1 9)) + l1) < (w0.2 5).1) ∧ ((-2147483648 ≤ l1 + 1 ∧ l1 + 1 ≤ 2147483647) ∧ ab_J x 52 [some (ab_O 0), some (ab_I (l1 + 1))] [] [(ab_pa w0 5 ((55 * (w0.1 9)) + l1) ((w0.2 3).2 l1))] kc ks)))))))) :
    ab_J x 52 [some (ab_O 0), some (ab_I l1)] [] [w0] kc ks := ab_go hx kX9_remembers.2 23 [(12, [true, true]), (52, [true, true])] 52 h
set_option maxRecDepth 100000 in
theorem vX9_remembers_12 {x : ab_Cx} {d mc ms : Nat} {Post : Option ab_V → List ab_Ob → Prop} (hx : ab_At x mX9_remembers d mc ms Post) (l1 : Int) (w0 : ab_Ob) (kc ks : Nat)
    (h : ((550 ≤ l1 → ((-2147483648 ≤ (w0.1 9) - 1 ∧ (w0.1 9) - 1 ≤ 2147483647) ∧ ab_J x 52 [some (ab_O 0), some (ab_I 0)] [] [(ab_pf w0 9 ((w0.1 9) - 1))] kc ks)) ∧ (¬ 550 ≤ l1 → ((-2147483648 ≤ l1 - 55 ∧ l1 - 55 ≤ 2147483647) ∧ ((0 ≤ l1 ∧ l1 < (w0.2 5).1) ∧ ((0 ≤ (l1 - 55) ∧ (l1 - 55) < (w0.2 5).1) ∧ ((-2147483648 ≤ l1 + 1 ∧ l1 + 1 ≤ 2147483647) ∧ ab_J x 12 [some (ab_O 0), some (ab_I (l1 + 1))] [] [(ab_pa w0 5 (l1 - 55) ((w0.2 5).2 l1))] kc ks))))))) :
    ab_J x 12 [some (ab_O 0), some (ab_I l1)] [] [w0] kc ks := ab_go hx kX9_remembers.2 20 [(12, [true, true]), (52, [true, true])] 12 h
def mX9_sets : ab_M := ((yX9_sets, cX9_sets, 4, (some .int)), ([9], [(0, 0)], [true], false, false, 0), (false, 9, 2))
def rX9_sets : List ab_R := [(0, .aload_n 0, 1, 0, 0, 0, [], none),
  (1, .invokevirtual 393, 3, 0, 0, 0, [], some mX9_remembers),
  (4, .aload_n 0, 1, 0, 0, 0, [], none),
  (5, .getfield 13, 3, 9, 3, 0, [], none),
  (8, .iload_n 1, 1, 0, 0, 0, [], none),
  (9, .iaload, 1, 0, 0, 0, [], none),
  (10, .istore_n 3, 1, 0, 0, 0, [], none),
  (11, .aload_n 0, 1, 0, 0, 0, [], none),
  (12, .getfield 13, 3, 9, 3, 0, [], none),
  (15, .iload_n 1, 1, 0, 0, 0, [], none),
  (16, .iload_n 2, 1, 0, 0, 0, [], none),
  (17, .iastore, 1, 0, 0, 0, [], none),
  (18, .aload_n 0, 1, 0, 0, 0, [], none),
  (19, .invokevirtual 252, 3, 0, 0, 0, [], some mX9_lays),
  (22, .aload_n 0, 1, 0, 0, 0, [], none),
  (23, .iload_n 3, 1, 0, 0, 0, [], none),
  (24, .invokevirtual 255, 3, 0, 0, 0, [], some mX9_good),
  (27, .ireturn, 1, 0, 0, 0, [], none)]
set_option maxRecDepth 100000 in
theorem kX9_sets : ab_def_ok mX9_sets rX9_sets := ⟨ab_mok_of 1747 108 1746 96 (by decide +kernel), [0, 1748, 0, 1195, 0, 0, 0, 0, 1195, 0, 0, 0, 0, 1442, 0, 0, 1509, 0], by decide +kernel⟩
set_option maxRecDepth 100000 in
theorem vX9_sets_0 {x : ab_Cx} {d mc ms : Nat} {Post : Option ab_V → List ab_Ob → Prop} (hx : ab_At x mX9_sets d mc ms Post) (a1 a2 : Int) (w0 : ab_Ob) (kc ks : Nat)
    (h : (∃ Q1 : Option ab_V → List ab_Ob → Prop, ab_Ct d 0 0 mX9_remembers [ab_O 0] [w0] Q1 ∧ (∀ v2 : ab_Ob, Q1 none [v2] → ((0 ≤ a1 ∧ a1 < (v2.2 3).1) ∧ ((0 ≤ a1 ∧ a1 < (v2.2 3).1) ∧ (∃ Q3 : Option ab_V → List ab_Ob → Prop, ab_Ct d 0 0 mX9_lays [ab_O 0] [(ab_pa v2 3 a1 a2)] Q3 ∧ (∀ v4 : ab_Ob, Q3 none [v4] → (∃ Q5 : Option ab_V → List ab_Ob → Prop, ab_Ct d 0 0 mX9_good [ab_O 0, ab_I ((v2.2 3).2 a1)] [v4] Q5 ∧ (∀ r6 : Int, ∀ v7 : ab_Ob, Q5 (some (ab_I r6)) [v7] → Post (some (ab_I r6)) [v7]))))))))) :
    ab_J x 0 [some (ab_O 0), some (ab_I a1), some (ab_I a2), none] [] [w0] kc ks := ab_go hx kX9_sets.2 22 [] 0 h
def mX9_pitch : ab_M := ((yX9_pitch, cX9_pitch, 3, (some .int)), ([9], [(0, 0)], [true], false, false, 0), (false, 9, 2))
def rX9_pitch : List ab_R := [(0, .aload_n 0, 1, 0, 0, 0, [], none),
  (1, .iconst 0, 1, 0, 0, 0, [], none),
  (2, .putfield 100, 3, 9, 0, 0, [], none),
  (5, .aload_n 0, 1, 0, 0, 0, [], none),
  (6, .iload_n 1, 1, 0, 0, 0, [], none),
  (7, .invokevirtual 307, 3, 0, 0, 0, [], some mX9_isNote),
  (10, .ifCond .ne 9, 3, 0, 0, 0, [19], none),
  (13, .aload_n 0, 1, 0, 0, 0, [], none),
  (14, .iconst 1, 1, 0, 0, 0, [], none),
  (15, .invokevirtual 229, 3, 0, 0, 0, [], some mX9_refused),
  (18, .ireturn, 1, 0, 0, 0, [], none),
  (19, .iload_n 2, 1, 0, 0, 0, [], none),
  (20, .iconst 0, 1, 0, 0, 0, [], none),
  (21, .bipush 99, 2, 0, 0, 0, [], none),
  (23, .invokestatic 125, 3, 0, 0, 0, [], some mX9_in),
  (26, .ifCond .eq 14, 3, 0, 0, 0, [40], none),
  (29, .aload_n 0, 1, 0, 0, 0, [], none),
  (30, .iconst 0, 1, 0, 0, 0, [], none),
  (31, .iload_n 1, 1, 0, 0, 0, [], none),
  (32, .iadd, 1, 0, 0, 0, [], none),
  (33, .iload_n 2, 1, 0, 0, 0, [], none),
  (34, .invokevirtual 396, 3, 0, 0, 0, [], some mX9_sets),
  (37, .goto 8, 3, 0, 0, 0, [45], none),
  (40, .aload_n 0, 1, 0, 0, 0, [], none),
  (41, .iconst 2, 1, 0, 0, 0, [], none),
  (42, .invokevirtual 229, 3, 0, 0, 0, [], some mX9_refused),
  (45, .ireturn, 1, 0, 0, 0, [], none)]
set_option maxRecDepth 100000 in
theorem kX9_pitch : ab_def_ok mX9_pitch rX9_pitch := ⟨ab_mok_of 1743 108 1741 1742 (by decide +kernel), [0, 0, 1192, 0, 0, 1529, 0, 0, 0, 1361, 0, 0, 0, 0, 1377, 0, 0, 0, 0, 0, 0, 1744, 0, 0, 0, 1361, 0], by decide +kernel⟩
set_option maxRecDepth 100000 in
theorem vX9_pitch_0 {x : ab_Cx} {d mc ms : Nat} {Post : Option ab_V → List ab_Ob → Prop} (hx : ab_At x mX9_pitch d mc ms Post) (a1 a2 : Int) (w0 : ab_Ob) (kc ks : Nat)
    (h : (∃ Q1 : Option ab_V → List ab_Ob → Prop, ab_Ct d 0 0 mX9_isNote [ab_O 0, ab_I a1] [(ab_pf w0 0 0)] Q1 ∧ (∀ r2 : Int, Q1 (some (ab_I r2)) [(ab_pf w0 0 0)] → ((¬ r2 = 0 → (∃ Q3 : Option ab_V → List ab_Ob → Prop, ab_Ct d 0 0 mX9_in [ab_I a2, ab_I 0, ab_I 99] [] Q3 ∧ (∀ r4 : Int, Q3 (some (ab_I r4)) [] → ((r4 = 0 → (∃ Q5 : Option ab_V → List ab_Ob → Prop, ab_Ct d 0 0 mX9_refused [ab_O 0, ab_I 2] [(ab_pf w0 0 0)] Q5 ∧ (∀ r6 : Int, ∀ v7 : ab_Ob, Q5 (some (ab_I r6)) [v7] → Post (some (ab_I r6)) [v7]))) ∧ (¬ r4 = 0 → ((-2147483648 ≤ 0 + a1 ∧ 0 + a1 ≤ 2147483647) ∧ (∃ Q8 : Option ab_V → List ab_Ob → Prop, ab_Ct d 0 0 mX9_sets [ab_O 0, ab_I (0 + a1), ab_I a2] [(ab_pf w0 0 0)] Q8 ∧ (∀ r9 : Int, ∀ v10 : ab_Ob, Q8 (some (ab_I r9)) [v10] → Post (some (ab_I r9)) [v10])))))))) ∧ (r2 = 0 → (∃ Q11 : Option ab_V → List ab_Ob → Prop, ab_Ct d 0 0 mX9_refused [ab_O 0, ab_I 1] [(ab_pf w0 0 0)] Q11 ∧ (∀ r12 : Int, ∀ v13 : ab_Ob, Q11 (some (ab_I r12)) [v13] → Post (some (ab_I r12)) [v13]))))))) :
    ab_J x 0 [some (ab_O 0), some (ab_I a1), some (ab_I a2)] [] [w0] kc ks := ab_go hx kX9_pitch.2 24 [] 0 h
def mX9_last : ab_M := ((yX9_last, cX9_last, 3, (some .int)), ([9], [(0, 0)], [true], false, false, 0), (false, 9, 2))
def rX9_last : List ab_R := [(0, .aload_n 0, 1, 0, 0, 0, [], none),
  (1, .iconst 0, 1, 0, 0, 0, [], none),
  (2, .putfield 100, 3, 9, 0, 0, [], none),
  (5, .aload_n 0, 1, 0, 0, 0, [], none),
  (6, .iload_n 1, 1, 0, 0, 0, [], none),
  (7, .invokevirtual 307, 3, 0, 0, 0, [], some mX9_isNote),
  (10, .ifCond .ne 9, 3, 0, 0, 0, [19], none),
  (13, .aload_n 0, 1, 0, 0, 0, [], none),
  (14, .iconst 1, 1, 0, 0, 0, [], none),
  (15, .invokevirtual 229, 3, 0, 0, 0, [], some mX9_refused),
  (18, .ireturn, 1, 0, 0, 0, [], none),
  (19, .iload_n 2, 1, 0, 0, 0, [], none),
  (20, .iconst 1, 1, 0, 0, 0, [], none),
  (21, .bipush 64, 2, 0, 0, 0, [], none),
  (23, .invokestatic 125, 3, 0, 0, 0, [], some mX9_in),
  (26, .ifCond .eq 15, 3, 0, 0, 0, [41], none),
  (29, .aload_n 0, 1, 0, 0, 0, [], none),
  (30, .bipush 24, 2, 0, 0, 0, [], none),
  (32, .iload_n 1, 1, 0, 0, 0, [], none),
  (33, .iadd, 1, 0, 0, 0, [], none),
  (34, .iload_n 2, 1, 0, 0, 0, [], none),
  (35, .invokevirtual 396, 3, 0, 0, 0, [], some mX9_sets),
  (38, .goto 8, 3, 0, 0, 0, [46], none),
  (41, .aload_n 0, 1, 0, 0, 0, [], none),
  (42, .iconst 2, 1, 0, 0, 0, [], none),
  (43, .invokevirtual 229, 3, 0, 0, 0, [], some mX9_refused),
  (46, .ireturn, 1, 0, 0, 0, [], none)]
set_option maxRecDepth 100000 in
theorem kX9_last : ab_def_ok mX9_last rX9_last := ⟨ab_mok_of 1755 108 1753 1754 (by decide +kernel), [0, 0, 1192, 0, 0, 1529, 0, 0, 0, 1361, 0, 0, 0, 0, 1377, 0, 0, 0, 0, 0, 0, 1744, 0, 0, 0, 1361, 0], by decide +kernel⟩
set_option maxRecDepth 100000 in
theorem vX9_last_0 {x : ab_Cx} {d mc ms : Nat} {Post : Option ab_V → List ab_Ob → Prop} (hx : ab_At x mX9_last d mc ms Post) (a1 a2 : Int) (w0 : ab_Ob) (kc ks : Nat)
    (h : (∃ Q1 : Option ab_V → List ab_Ob → Prop, ab_Ct d 0 0 mX9_isNote [ab_O 0, ab_I a1] [(ab_pf w0 0 0)] Q1 ∧ (∀ r2 : Int, Q1 (some (ab_I r2)) [(ab_pf w0 0 0)] → ((¬ r2 = 0 → (∃ Q3 : Option ab_V → List ab_Ob → Prop, ab_Ct d 0 0 mX9_in [ab_I a2, ab_I 1, ab_I 64] [] Q3 ∧ (∀ r4 : Int, Q3 (some (ab_I r4)) [] → ((r4 = 0 → (∃ Q5 : Option ab_V → List ab_Ob → Prop, ab_Ct d 0 0 mX9_refused [ab_O 0, ab_I 2] [(ab_pf w0 0 0)] Q5 ∧ (∀ r6 : Int, ∀ v7 : ab_Ob, Q5 (some (ab_I r6)) [v7] → Post (some (ab_I r6)) [v7]))) ∧ (¬ r4 = 0 → ((-2147483648 ≤ 24 + a1 ∧ 24 + a1 ≤ 2147483647) ∧ (∃ Q8 : Option ab_V → List ab_Ob → Prop, ab_Ct d 0 0 mX9_sets [ab_O 0, ab_I (24 + a1), ab_I a2] [(ab_pf w0 0 0)] Q8 ∧ (∀ r9 : Int, ∀ v10 : ab_Ob, Q8 (some (ab_I r9)) [v10] → Post (some (ab_I r9)) [v10])))))))) ∧ (r2 = 0 → (∃ Q11 : Option ab_V → List ab_Ob → Prop, ab_Ct d 0 0 mX9_refused [ab_O 0, ab_I 1] [(ab_pf w0 0 0)] Q11 ∧ (∀ r12 : Int, ∀ v13 : ab_Ob, Q11 (some (ab_I r12)) [v13] → Post (some (ab_I r12)) [v13]))))))) :
    ab_J x 0 [some (ab_O 0), some (ab_I a1), some (ab_I a2)] [] [w0] kc ks := ab_go hx kX9_last.2 24 [] 0 h
def mX9_weigh : ab_M := ((yX9_weigh, cX9_weigh, 3, (some .int)), ([9], [(0, 0)], [true], false, false, 0), (false, 9, 2))
def rX9_weigh : List ab_R := [(0, .aload_n 0, 1, 0, 0, 0, [], none),
  (1, .iconst 0, 1, 0, 0, 0, [], none),
  (2, .putfield 100, 3, 9, 0, 0, [], none),
  (5, .aload_n 0, 1, 0, 0, 0, [], none),
  (6, .getfield 235, 3, 9, 14, 0, [], none),
  (9, .ifCond .eq 10, 3, 0, 0, 0, [19], none),
  (12, .iload_n 1, 1, 0, 0, 0, [], none),
  (13, .invokestatic 311, 3, 0, 0, 0, [], some mX9_isRule),
  (16, .ifCond .ne 9, 3, 0, 0, 0, [25], none),
  (19, .aload_n 0, 1, 0, 0, 0, [], none),
  (20, .iconst 1, 1, 0, 0, 0, [], none),
  (21, .invokevirtual 229, 3, 0, 0, 0, [], some mX9_refused),
  (24, .ireturn, 1, 0, 0, 0, [], none),
  (25, .iload_n 2, 1, 0, 0, 0, [], none),
  (26, .iconst 0, 1, 0, 0, 0, [], none),
  (27, .bipush 99, 2, 0, 0, 0, [], none),
  (29, .invokestatic 125, 3, 0, 0, 0, [], some mX9_in),
  (32, .ifCond .eq 15, 3, 0, 0, 0, [47], none),
  (35, .aload_n 0, 1, 0, 0, 0, [], none),
  (36, .bipush 48, 2, 0, 0, 0, [], none),
  (38, .iload_n 1, 1, 0, 0, 0, [], none),
  (39, .iadd, 1, 0, 0, 0, [], none),
  (40, .iload_n 2, 1, 0, 0, 0, [], none),
  (41, .invokevirtual 396, 3, 0, 0, 0, [], some mX9_sets),
  (44, .goto 8, 3, 0, 0, 0, [52], none),
  (47, .aload_n 0, 1, 0, 0, 0, [], none),
  (48, .iconst 2, 1, 0, 0, 0, [], none),
  (49, .invokevirtual 229, 3, 0, 0, 0, [], some mX9_refused),
  (52, .ireturn, 1, 0, 0, 0, [], none)]
set_option maxRecDepth 100000 in
theorem kX9_weigh : ab_def_ok mX9_weigh rX9_weigh := ⟨ab_mok_of 1759 108 1757 1758 (by decide +kernel), [0, 0, 1192, 0, 1206, 0, 0, 1537, 0, 0, 0, 1361, 0, 0, 0, 0, 1377, 0, 0, 0, 0, 0, 0, 1744, 0, 0, 0, 1361, 0], by decide +kernel⟩
set_option maxRecDepth 100000 in
theorem vX9_weigh_0 {x : ab_Cx} {d mc ms : Nat} {Post : Option ab_V → List ab_Ob → Prop} (hx : ab_At x mX9_weigh d mc ms Post) (a1 a2 : Int) (w0 : ab_Ob) (kc ks : Nat)
    (h : (((w0.1 14) = 0 → (∃ Q1 : Option ab_V → List ab_Ob → Prop, ab_Ct d 0 0 mX9_refused [ab_O 0, ab_I 1] [(ab_pf w0 0 0)] Q1 ∧ (∀ r2 : Int, ∀ v3 : ab_Ob, Q1 (some (ab_I r2)) [v3] → Post (some (ab_I r2)) [v3]))) ∧ (¬ (w0.1 14) = 0 → (∃ Q4 : Option ab_V → List ab_Ob → Prop, ab_Ct d 0 0 mX9_isRule [ab_I a1] [] Q4 ∧ (∀ r5 : Int, Q4 (some (ab_I r5)) [] → ((¬ r5 = 0 → (∃ Q6 : Option ab_V → List ab_Ob → Prop, ab_Ct d 0 0 mX9_in [ab_I a2, ab_I 0, ab_I 99] [] Q6 ∧ (∀ r7 : Int, Q6 (some (ab_I r7)) [] → ((r7 = 0 → (∃ Q8 : Option ab_V → List ab_Ob → Prop, ab_Ct d 0 0 mX9_refused [ab_O 0, ab_I 2] [(ab_pf w0 0 0)] Q8 ∧ (∀ r9 : Int, ∀ v10 : ab_Ob, Q8 (some (ab_I r9)) [v10] → Post (some (ab_I r9)) [v10]))) ∧ (¬ r7 = 0 → ((-2147483648 ≤ 48 + a1 ∧ 48 + a1 ≤ 2147483647) ∧ (∃ Q11 : Option ab_V → List ab_Ob → Prop, ab_Ct d 0 0 mX9_sets [ab_O 0, ab_I (48 + a1), ab_I a2] [(ab_pf w0 0 0)] Q11 ∧ (∀ r12 : Int, ∀ v13 : ab_Ob, Q11 (some (ab_I r12)) [v13] → Post (some (ab_I r12)) [v13])))))))) ∧ (r5 = 0 → (∃ Q14 : Option ab_V → List ab_Ob → Prop, ab_Ct d 0 0 mX9_refused [ab_O 0, ab_I 1] [(ab_pf w0 0 0)] Q14 ∧ (∀ r15 : Int, ∀ v16 : ab_Ob, Q14 (some (ab_I r15)) [v16] → Post (some (ab_I r15)) [v16]))))))))) :
    ab_J x 0 [some (ab_O 0), some (ab_I a1), some (ab_I a2)] [] [w0] kc ks := ab_go hx kX9_weigh.2 26 [] 0 h
def mX9_key : ab_M := ((yX9_key, cX9_key, 2, (some .int)), ([9], [(0, 0)], [true], false, false, 0), (false, 9, 1))
def rX9_key : List ab_R := [(0, .aload_n 0, 1, 0, 0, 0, [], none),
  (1, .iconst 0, 1, 0, 0, 0, [], none),
  (2, .putfield 100, 3, 9, 0, 0, [], none),
  (5, .aload_n 0, 1, 0, 0, 0, [], none),
  (6, .getfield 235, 3, 9, 14, 0, [], none),
  (9, .ifCond .ne 9, 3, 0, 0, 0, [18], none),
  (12, .aload_n 0, 1, 0, 0, 0, [], none),
  (13, .iconst 1, 1, 0, 0, 0, [], none),
  (14, .invokevirtual 229, 3, 0, 0, 0, [], some mX9_refused),
  (17, .ireturn, 1, 0, 0, 0, [], none),
  (18, .iload_n 1, 1, 0, 0, 0, [], none),
  (19, .iconst 0, 1, 0, 0, 0, [], none),
  (20, .bipush 11, 2, 0, 0, 0, [], none),
  (22, .invokestatic 125, 3, 0, 0, 0, [], some mX9_in),
  (25, .ifCond .eq 13, 3, 0, 0, 0, [38], none),
  (28, .aload_n 0, 1, 0, 0, 0, [], none),
  (29, .bipush 54, 2, 0, 0, 0, [], none),
  (31, .iload_n 1, 1, 0, 0, 0, [], none),
  (32, .invokevirtual 396, 3, 0, 0, 0, [], some mX9_sets),
  (35, .goto 8, 3, 0, 0, 0, [43], none),
  (38, .aload_n 0, 1, 0, 0, 0, [], none),
  (39, .iconst 2, 1, 0, 0, 0, [], none),
  (40, .invokevirtual 229, 3, 0, 0, 0, [], some mX9_refused),
  (43, .ireturn, 1, 0, 0, 0, [], none)]
set_option maxRecDepth 100000 in
theorem kX9_key : ab_def_ok mX9_key rX9_key := ⟨ab_mok_of 1763 108 1761 1762 (by decide +kernel), [0, 0, 1192, 0, 1206, 0, 0, 0, 1361, 0, 0, 0, 0, 1377, 0, 0, 0, 0, 1744, 0, 0, 0, 1361, 0], by decide +kernel⟩
set_option maxRecDepth 100000 in
theorem vX9_key_0 {x : ab_Cx} {d mc ms : Nat} {Post : Option ab_V → List ab_Ob → Prop} (hx : ab_At x mX9_key d mc ms Post) (a1 : Int) (w0 : ab_Ob) (kc ks : Nat)
    (h : ((¬ (w0.1 14) = 0 → (∃ Q1 : Option ab_V → List ab_Ob → Prop, ab_Ct d 0 0 mX9_in [ab_I a1, ab_I 0, ab_I 11] [] Q1 ∧ (∀ r2 : Int, Q1 (some (ab_I r2)) [] → ((r2 = 0 → (∃ Q3 : Option ab_V → List ab_Ob → Prop, ab_Ct d 0 0 mX9_refused [ab_O 0, ab_I 2] [(ab_pf w0 0 0)] Q3 ∧ (∀ r4 : Int, ∀ v5 : ab_Ob, Q3 (some (ab_I r4)) [v5] → Post (some (ab_I r4)) [v5]))) ∧ (¬ r2 = 0 → (∃ Q6 : Option ab_V → List ab_Ob → Prop, ab_Ct d 0 0 mX9_sets [ab_O 0, ab_I 54, ab_I a1] [(ab_pf w0 0 0)] Q6 ∧ (∀ r7 : Int, ∀ v8 : ab_Ob, Q6 (some (ab_I r7)) [v8] → Post (some (ab_I r7)) [v8]))))))) ∧ ((w0.1 14) = 0 → (∃ Q9 : Option ab_V → List ab_Ob → Prop, ab_Ct d 0 0 mX9_refused [ab_O 0, ab_I 1] [(ab_pf w0 0 0)] Q9 ∧ (∀ r10 : Int, ∀ v11 : ab_Ob, Q9 (some (ab_I r10)) [v11] → Post (some (ab_I r10)) [v11]))))) :
    ab_J x 0 [some (ab_O 0), some (ab_I a1)] [] [w0] kc ks := ab_go hx kX9_key.2 21 [] 0 h
def mX9_move : ab_M := ((yX9_move, cX9_move, 3, (some .int)), ([9], [(0, 0)], [true], false, false, 0), (false, 9, 1))
def rX9_move : List ab_R := [(0, .aload_n 0, 1, 0, 0, 0, [], none),
  (1, .iconst 0, 1, 0, 0, 0, [], none),
  (2, .putfield 100, 3, 9, 0, 0, [], none),
  (5, .aload_n 0, 1, 0, 0, 0, [], none),
  (6, .getfield 235, 3, 9, 14, 0, [], none),
  (9, .ifCond .ne 9, 3, 0, 0, 0, [18], none),
  (12, .aload_n 0, 1, 0, 0, 0, [], none),
  (13, .iconst 1, 1, 0, 0, 0, [], none),
  (14, .invokevirtual 229, 3, 0, 0, 0, [], some mX9_refused),
  (17, .ireturn, 1, 0, 0, 0, [], none),
  (18, .iload_n 1, 1, 0, 0, 0, [], none),
  (19, .bipush (-99), 2, 0, 0, 0, [], none),
  (21, .bipush 99, 2, 0, 0, 0, [], none),
  (23, .invokestatic 125, 3, 0, 0, 0, [], some mX9_in),
  (26, .ifCond .ne 9, 3, 0, 0, 0, [35], none),
  (29, .aload_n 0, 1, 0, 0, 0, [], none),
  (30, .iconst 2, 1, 0, 0, 0, [], none),
  (31, .invokevirtual 229, 3, 0, 0, 0, [], some mX9_refused),
  (34, .ireturn, 1, 0, 0, 0, [], none),
  (35, .iconst 0, 1, 0, 0, 0, [], none),
  (36, .istore_n 2, 1, 0, 0, 0, [], none),
  (37, .iload_n 2, 1, 0, 0, 0, [], none),
  (38, .aload_n 0, 1, 0, 0, 0, [], none),
  (39, .getfield 246, 3, 9, 8, 0, [], none),
  (42, .if_icmp .ge 31, 3, 0, 0, 0, [73], none),
  (45, .aload_n 0, 1, 0, 0, 0, [], none),
  (46, .iload_n 2, 1, 0, 0, 0, [], none),
  (47, .invokevirtual 264, 3, 0, 0, 0, [], some mX9_pitchOf),
  (50, .iload_n 1, 1, 0, 0, 0, [], none),
  (51, .iadd, 1, 0, 0, 0, [], none),
  (52, .iconst 0, 1, 0, 0, 0, [], none),
  (53, .bipush 99, 2, 0, 0, 0, [], none),
  (55, .invokestatic 125, 3, 0, 0, 0, [], some mX9_in),
  (58, .ifCond .ne 9, 3, 0, 0, 0, [67], none),
  (61, .aload_n 0, 1, 0, 0, 0, [], none),
  (62, .iconst 5, 1, 0, 0, 0, [], none),
  (63, .invokevirtual 229, 3, 0, 0, 0, [], some mX9_refused),
  (66, .ireturn, 1, 0, 0, 0, [], none),
  (67, .iinc 2 1, 3, 0, 0, 0, [], none),
  (70, .goto (-33), 3, 0, 0, 0, [37], none),
  (73, .aload_n 0, 1, 0, 0, 0, [], none),
  (74, .invokevirtual 393, 3, 0, 0, 0, [], some mX9_remembers),
  (77, .iconst 0, 1, 0, 0, 0, [], none),
  (78, .istore_n 2, 1, 0, 0, 0, [], none),
  (79, .iload_n 2, 1, 0, 0, 0, [], none),
  (80, .aload_n 0, 1, 0, 0, 0, [], none),
  (81, .getfield 246, 3, 9, 8, 0, [], none),
  (84, .if_icmp .ge 21, 3, 0, 0, 0, [105], none),
  (87, .aload_n 0, 1, 0, 0, 0, [], none),
  (88, .getfield 13, 3, 9, 3, 0, [], none),
  (91, .iconst 0, 1, 0, 0, 0, [], none),
  (92, .iload_n 2, 1, 0, 0, 0, [], none),
  (93, .iadd, 1, 0, 0, 0, [], none),
  (94, .dup2, 1, 0, 0, 0, [], none),
  (95, .iaload, 1, 0, 0, 0, [], none),
  (96, .iload_n 1, 1, 0, 0, 0, [], none),
  (97, .iadd, 1, 0, 0, 0, [], none),
  (98, .iastore, 1, 0, 0, 0, [], none),
  (99, .iinc 2 1, 3, 0, 0, 0, [], none),
  (102, .goto (-23), 3, 0, 0, 0, [79], none),
  (105, .aload_n 0, 1, 0, 0, 0, [], none),
  (106, .invokevirtual 252, 3, 0, 0, 0, [], some mX9_lays),
  (109, .aload_n 0, 1, 0, 0, 0, [], none),
  (110, .aload_n 0, 1, 0, 0, 0, [], none),
  (111, .getfield 33, 3, 9, 27, 0, [], none),
  (114, .iconst 0, 1, 0, 0, 0, [], none),
  (115, .aload_n 0, 1, 0, 0, 0, [], none),
  (116, .getfield 246, 3, 9, 8, 0, [], none),
  (119, .iconst 1, 1, 0, 0, 0, [], none),
  (120, .isub, 1, 0, 0, 0, [], none),
  (121, .aload_n 0, 1, 0, 0, 0, [], none),
  (122, .iconst 0, 1, 0, 0, 0, [], none),
  (123, .aload_n 0, 1, 0, 0, 0, [], none),
  (124, .getfield 246, 3, 9, 8, 0, [], none),
  (127, .iconst 1, 1, 0, 0, 0, [], none),
  (128, .isub, 1, 0, 0, 0, [], none),
  (129, .invokevirtual 318, 3, 0, 0, 0, [], some mX9_headOf),
  (132, .invokestatic 289, 3, 0, 0, 0, [], some mX9_cube),
  (135, .iaload, 1, 0, 0, 0, [], none),
  (136, .invokevirtual 255, 3, 0, 0, 0, [], some mX9_good),
  (139, .ireturn, 1, 0, 0, 0, [], none)]
set_option maxRecDepth 100000 in
theorem kX9_move : ab_def_ok mX9_move rX9_move := ⟨ab_mok_of 1767 108 1765 1766 (by decide +kernel), [0, 0, 1192, 0, 1206, 0, 0, 0, 1361, 0, 0, 0, 0, 1377, 0, 0, 0, 1361, 0, 0, 0, 0, 0, 1200, 0, 0, 0, 1462, 0, 0, 0, 0, 1377, 0, 0, 0, 1361, 0, 0, 0, 0, 1748, 0, 0, 0, 0, 1200, 0, 0, 1195, 0, 0, 0, 0, 0, 0, 0, 0, 0, 0, 0, 1442, 0, 0, 1219, 0, 0, 1200, 0, 0, 0, 0, 0, 1200, 0, 0, 1501, 1470, 0, 1509, 0], by decide +kernel⟩
set_option maxRecDepth 100000 in
theorem vX9_move_0 {x : ab_Cx} {d mc ms : Nat} {Post : Option ab_V → List ab_Ob → Prop} (hx : ab_At x mX9_move d mc ms Post) (a1 : Int) (w0 : ab_Ob) (kc ks : Nat)
    (h : ((¬ (w0.1 14) = 0 → (∃ Q1 : Option ab_V → List ab_Ob → Prop, ab_Ct d 0 0 mX9_in [ab_I a1, ab_I (-99), ab_I 99] [] Q1 ∧ (∀ r2 : Int, Q1 (some (ab_I r2)) [] → ((¬ r2 = 0 → ab_J x 37 [some (ab_O 0), some (ab_I a1), some (ab_I 0)] [] [(ab_pf w0 0 0)] kc ks) ∧ (r2 = 0 → (∃ Q3 : Option ab_V → List ab_Ob → Prop, ab_Ct d 0 0 mX9_refused [ab_O 0, ab_I 2] [(ab_pf w0 0 0)] Q3 ∧ (∀ r4 : Int, ∀ v5 : ab_Ob, Q3 (some (ab_I r4)) [v5] → Post (some (ab_I r4)) [v5]))))))) ∧ ((w0.1 14) = 0 → (∃ Q6 : Option ab_V → List ab_Ob → Prop, ab_Ct d 0 0 mX9_refused [ab_O 0, ab_I 1] [(ab_pf w0 0 0)] Q6 ∧ (∀ r7 : Int, ∀ v8 : ab_Ob, Q6 (some (ab_I r7)) [v8] → Post (some (ab_I r7)) [v8]))))) :
    ab_J x 0 [some (ab_O 0), some (ab_I a1), none] [] [w0] kc ks := ab_go hx kX9_move.2 19 [(37, [true, true, true]), (79, [true, true, true])] 0 h
set_option maxRecDepth 100000 in
theorem vX9_move_37 {x : ab_Cx} {d mc ms : Nat} {Post : Option ab_V → List ab_Ob → Prop} (hx : ab_At x mX9_move d mc ms Post) (l1 l2 : Int) (w0 : ab_Ob) (kc ks : Nat)
    (h : (((w0.1 8) ≤ l2 → (∃ Q1 : Option ab_V → List ab_Ob → Prop, ab_Ct d 0 0 mX9_remembers [ab_O 0] [w0] Q1 ∧ (∀ v2 : ab_Ob, Q1 none [v2] → ab_J x 79 [some (ab_O 0), some (ab_I l1), some (ab_I 0)] [] [v2] kc ks))) ∧ (¬ (w0.1 8) ≤ l2 → (∃ Q3 : Option ab_V → List ab_Ob → Prop, ab_Ct d 0 0 mX9_pitchOf [ab_O 0, ab_I l2] [w0] Q3 ∧ (∀ r4 : Int, Q3 (some (ab_I r4)) [w0] → ((-2147483648 ≤ r4 + l1 ∧ r4 + l1 ≤ 2147483647) ∧ (∃ Q5 : Option ab_V → List ab_Ob → Prop, ab_Ct d 0 0 mX9_in [ab_I (r4 + l1), ab_I 0, ab_I 99] [] Q5 ∧ (∀ r6 : Int, Q5 (some (ab_I r6)) [] → ((¬ r6 = 0 → ((-2147483648 ≤ l2 + 1 ∧ l2 + 1 ≤ 2147483647) ∧ ab_J x 37 [some (ab_O 0), some (ab_I l1), some (ab_I (l2 + 1))] [] [w0] kc ks)) ∧ (r6 = 0 → (∃ Q7 : Option ab_V → List ab_Ob → Prop, ab_Ct d 0 0 mX9_refused [ab_O 0, ab_I 5] [w0] Q7 ∧ (∀ r8 : Int, ∀ v9 : ab_Ob, Q7 (some (ab_I r8)) [v9] → Post (some (ab_I r8)) [v9])))))))))))) :
    ab_J x 37 [some (ab_O 0), some (ab_I l1), some (ab_I l2)] [] [w0] kc ks := ab_go hx kX9_move.2 21 [(37, [true, true, true]), (79, [true, true, true])] 37 h
set_option maxRecDepth 100000 in
theorem vX9_move_79 {x : ab_Cx} {d mc ms : Nat} {Post : Option ab_V → List ab_Ob → Prop} (hx : ab_At x mX9_move d mc ms Post) (l1 l2 : Int) (w0 : ab_Ob) (kc ks : Nat)
    (h : (((w0.1 8) ≤ l2 → (∃ Q1 : Option ab_V → List ab_Ob → Prop, ab_Ct d 0 0 mX9_lays [ab_O 0] [w0] Q1 ∧ (∀ v2 : ab_Ob, Q1 none [v2] → ((-2147483648 ≤ (v2.1 8) - 1 ∧ (v2.1 8) - 1 ≤ 2147483647) ∧ ((-2147483648 ≤ (v2.1 8) - 1 ∧ (v2.1 8) - 1 ≤ 2147483647) ∧ (∃ Q3 : Option ab_V → List ab_Ob → Prop, ab_Ct d 0 0 mX9_headOf [ab_O 0, ab_I 0, ab_I ((v2.1 8) - 1)] [v2] Q3 ∧ (∀ r4 : Int, Q3 (some (ab_I r4)) [v2] → (∃ Q5 : Option ab_V → List ab_Ob → Prop, ab_Ct d 0 0 mX9_cube [ab_I 0, ab_I ((v2.1 8) - 1), ab_I r4] [] Q5 ∧ (∀ r6 : Int, Q5 (some (ab_I r6)) [] → ((0 ≤ r6 ∧ r6 < (v2.2 27).1) ∧ (∃ Q7 : Option ab_V → List ab_Ob → Prop, ab_Ct d 0 0 mX9_good [ab_O 0, ab_I ((v2.2 27).2 r6)] [v2] Q7 ∧ (∀ r8 : Int, ∀ v9 : ab_Ob, Q7 (some (ab_I r8)) [v9] → Post (some (ab_I r8)) [v9])))))))))))) ∧ (¬ (w0.1 8) ≤ l2 → ((-2147483648 ≤ 0 + l2 ∧ 0 + l2 ≤ 2147483647) ∧ ((0 ≤ (0 + l2) ∧ (0 + l2) < (w0.2 3).1) ∧ ((-2147483648 ≤ ((w0.2 3).2 (0 + l2)) + l1 ∧ ((w0.2 3).2 (0 + l2)) + l1 ≤ 2147483647) ∧ ((0 ≤ (0 + l2) ∧ (0 + l2) < (w0.2 3).1) ∧ ((-2147483648 ≤ l2 + 1 ∧ l2 + 1 ≤ 2147483647) ∧ ab_J x 79 [some (ab_O 0), some (ab_I l1), some (ab_I (l2 + 1))] [] [(ab_pa w0 3 (0 + l2) (((w0.2 3).2 (0 + l2)) + l1))] kc ks)))))))) :
    ab_J x 79 [some (ab_O 0), some (ab_I l1), some (ab_I l2)] [] [w0] kc ks := ab_go hx kX9_move.2 29 [(37, [true, true, true]), (79, [true, true, true])] 79 h
def mX9_undo : ab_M := ((yX9_undo, cX9_undo, 2, (some .boolean)), ([9], [(0, 0)], [true], false, false, 0), (false, 9, 0))
def rX9_undo : List ab_R := [(0, .aload_n 0, 1, 0, 0, 0, [], none),
  (1, .iconst 0, 1, 0, 0, 0, [], none),
  (2, .putfield 100, 3, 9, 0, 0, [], none),
  (5, .aload_n 0, 1, 0, 0, 0, [], none),
  (6, .getfield 235, 3, 9, 14, 0, [], none),
  (9, .ifCond .eq 10, 3, 0, 0, 0, [19], none),
  (12, .aload_n 0, 1, 0, 0, 0, [], none),
  (13, .getfield 249, 3, 9, 9, 0, [], none),
  (16, .ifCond .ne 11, 3, 0, 0, 0, [27], none),
  (19, .aload_n 0, 1, 0, 0, 0, [], none),
  (20, .iconst 1, 1, 0, 0, 0, [], none),
  (21, .invokevirtual 229, 3, 0, 0, 0, [], some mX9_refused),
  (24, .pop, 1, 0, 0, 0, [], none),
  (25, .iconst 0, 1, 0, 0, 0, [], none),
  (26, .ireturn, 1, 0, 0, 0, [], none),
  (27, .aload_n 0, 1, 0, 0, 0, [], none),
  (28, .dup, 1, 0, 0, 0, [], none),
  (29, .getfield 249, 3, 9, 9, 0, [], none),
  (32, .iconst 1, 1, 0, 0, 0, [], none),
  (33, .isub, 1, 0, 0, 0, [], none),
  (34, .putfield 249, 3, 9, 9, 0, [], none),
  (37, .iconst 0, 1, 0, 0, 0, [], none),
  (38, .istore_n 1, 1, 0, 0, 0, [], none),
  (39, .iload_n 1, 1, 0, 0, 0, [], none),
  (40, .bipush 55, 2, 0, 0, 0, [], none),
  (42, .if_icmp .ge 29, 3, 0, 0, 0, [71], none),
  (45, .aload_n 0, 1, 0, 0, 0, [], none),
  (46, .getfield 13, 3, 9, 3, 0, [], none),
  (49, .iload_n 1, 1, 0, 0, 0, [], none),
  (50, .aload_n 0, 1, 0, 0, 0, [], none),
  (51, .getfield 20, 3, 9, 5, 0, [], none),
  (54, .bipush 55, 2, 0, 0, 0, [], none),
  (56, .aload_n 0, 1, 0, 0, 0, [], none),
  (57, .getfield 249, 3, 9, 9, 0, [], none),
  (60, .imul, 1, 0, 0, 0, [], none),
  (61, .iload_n 1, 1, 0, 0, 0, [], none),
  (62, .iadd, 1, 0, 0, 0, [], none),
  (63, .iaload, 1, 0, 0, 0, [], none),
  (64, .iastore, 1, 0, 0, 0, [], none),
  (65, .iinc 1 1, 3, 0, 0, 0, [], none),
  (68, .goto (-29), 3, 0, 0, 0, [39], none),
  (71, .aload_n 0, 1, 0, 0, 0, [], none),
  (72, .invokevirtual 252, 3, 0, 0, 0, [], some mX9_lays),
  (75, .aload_n 0, 1, 0, 0, 0, [], none),
  (76, .iconst 0, 1, 0, 0, 0, [], none),
  (77, .invokevirtual 255, 3, 0, 0, 0, [], some mX9_good),
  (80, .pop, 1, 0, 0, 0, [], none),
  (81, .iconst 1, 1, 0, 0, 0, [], none),
  (82, .ireturn, 1, 0, 0, 0, [], none)]
set_option maxRecDepth 100000 in
theorem kX9_undo : ab_def_ok mX9_undo rX9_undo := ⟨ab_mok_of 1771 108 1769 1770 (by decide +kernel), [0, 0, 1192, 0, 1206, 0, 0, 1201, 0, 0, 0, 1361, 0, 0, 0, 0, 0, 1201, 0, 0, 1201, 0, 0, 0, 0, 0, 0, 1195, 0, 0, 1197, 0, 0, 1201, 0, 0, 0, 0, 0, 0, 0, 0, 1442, 0, 0, 1509, 0, 0, 0], by decide +kernel⟩
set_option maxRecDepth 100000 in
theorem vX9_undo_0 {x : ab_Cx} {d mc ms : Nat} {Post : Option ab_V → List ab_Ob → Prop} (hx : ab_At x mX9_undo d mc ms Post) (w0 : ab_Ob) (kc ks : Nat)
    (h : (((w0.1 14) = 0 → (∃ Q1 : Option ab_V → List ab_Ob → Prop, ab_Ct d 0 0 mX9_refused [ab_O 0, ab_I 1] [(ab_pf w0 0 0)] Q1 ∧ (∀ r2 : Int, ∀ v3 : ab_Ob, Q1 (some (ab_I r2)) [v3] → (((0 : Int) = 0 ∨ (0 : Int) = 1) ∧ Post (some (ab_I 0)) [v3])))) ∧ (¬ (w0.1 14) = 0 → ((¬ (w0.1 9) = 0 → ((-2147483648 ≤ (w0.1 9) - 1 ∧ (w0.1 9) - 1 ≤ 2147483647) ∧ ab_J x 39 [some (ab_O 0), some (ab_I 0)] [] [(ab_pf (ab_pf w0 0 0) 9 ((w0.1 9) - 1))] kc ks)) ∧ ((w0.1 9) = 0 → (∃ Q4 : Option ab_V → List ab_Ob → Prop, ab_Ct d 0 0 mX9_refused [ab_O 0, ab_I 1] [(ab_pf w0 0 0)] Q4 ∧ (∀ r5 : Int, ∀ v6 : ab_Ob, Q4 (some (ab_I r5)) [v6] → (((0 : Int) = 0 ∨ (0 : Int) = 1) ∧ Post (some (ab_I 0)) [v6])))))))) :
    ab_J x 0 [some (ab_O 0), none] [] [w0] kc ks := ab_go hx kX9_undo.2 22 [(39, [true, true])] 0 h
set_option maxRecDepth 100000 in
theorem vX9_undo_39 {x : ab_Cx} {d mc ms : Nat} {Post : Option ab_V → List ab_Ob → Prop} (hx : ab_At x mX9_undo d mc ms Post) (l1 : Int) (w0 : ab_Ob) (kc ks : Nat)
    (h : ((55 ≤ l1 → (∃ Q1 : Option ab_V → List ab_Ob → Prop, ab_Ct d 0 0 mX9_lays [ab_O 0] [w0] Q1 ∧ (∀ v2 : ab_Ob, Q1 none [v2] → (∃ Q3 : Option ab_V → List ab_Ob → Prop, ab_Ct d 0 0 mX9_good [ab_O 0, ab_I 0] [v2] Q3 ∧ (∀ r4 : Int, ∀ v5 : ab_Ob, Q3 (some (ab_I r4)) [v5] → (((1 : Int) = 0 ∨ (1 : Int) = 1) ∧ Post (some (ab_I 1)) [v5])))))) ∧ (¬ 55 ≤ l1 → ((-2147483648 ≤ 55 * (w0.1 9) ∧ 55 * (w0.1 9) ≤ 2147483647) ∧ ((-2147483648 ≤ (55 * (w0.1 9)) + l1 ∧ (55 * (w0.1 9)) + l1 ≤ 2147483647) ∧ ((0 ≤ ((55 * (w0.1 9)) + l1) ∧ ((55 * (w0.1 9)) + l1) < (w0.2 5).1) ∧ ((0 ≤ l1 ∧ l1 < (w0.2 3).1) ∧ ((-2147483648 ≤ l1 + 1 ∧ l1 + 1 ≤ 2147483647) ∧ ab_J x 39 [some (ab_O 0), some (ab_I (l1 + 1))] [] [(ab_pa w0 3 l1 ((w0.2 5).2 ((55 * (w0.1 9)) + l1)))] kc ks)))))))) :
    ab_J x 39 [some (ab_O 0), some (ab_I l1)] [] [w0] kc ks := ab_go hx kX9_undo.2 23 [(39, [true, true])] 39 h
def mX9_bare : ab_M := ((yX9_bare, cX9_bare, 4, (some .int)), ([9], [(0, 0)], [true], false, false, 0), (false, 9, 1))
def rX9_bare : List ab_R := [(0, .aload_n 0, 1, 0, 0, 0, [], none),
  (1, .iconst 0, 1, 0, 0, 0, [], none),
  (2, .putfield 100, 3, 9, 0, 0, [], none),
  (5, .iconst 0, 1, 0, 0, 0, [], none),
  (6, .istore_n 2, 1, 0, 0, 0, [], none),
  (7, .iconst 0, 1, 0, 0, 0, [], none),
  (8, .istore_n 3, 1, 0, 0, 0, [], none),
  (9, .aload_n 0, 1, 0, 0, 0, [], none),
  (10, .getfield 235, 3, 9, 14, 0, [], none),
  (13, .ifCond .eq 38, 3, 0, 0, 0, [51], none),
  (16, .iload_n 3, 1, 0, 0, 0, [], none),
  (17, .aload_n 0, 1, 0, 0, 0, [], none),
  (18, .getfield 246, 3, 9, 8, 0, [], none),
  (21, .if_icmp .ge 30, 3, 0, 0, 0, [51], none),
  (24, .aload_n 0, 1, 0, 0, 0, [], none),
  (25, .iload_n 3, 1, 0, 0, 0, [], none),
  (26, .invokevirtual 358, 3, 0, 0, 0, [], some mX9_underOne),
  (29, .ifCond .le 6, 3, 0, 0, 0, [35], none),
  (32, .goto 13, 3, 0, 0, 0, [45], none),
  (35, .iload_n 2, 1, 0, 0, 0, [], none),
  (36, .iload_n 1, 1, 0, 0, 0, [], none),
  (37, .if_icmp .ne 5, 3, 0, 0, 0, [42], none),
  (40, .iload_n 3, 1, 0, 0, 0, [], none),
  (41, .ireturn, 1, 0, 0, 0, [], none),
  (42, .iinc 2 1, 3, 0, 0, 0, [], none),
  (45, .iinc 3 1, 3, 0, 0, 0, [], none),
  (48, .goto (-39), 3, 0, 0, 0, [9], none),
  (51, .aload_n 0, 1, 0, 0, 0, [], none),
  (52, .iconst 1, 1, 0, 0, 0, [], none),
  (53, .putfield 100, 3, 9, 0, 0, [], none),
  (56, .iconst 0, 1, 0, 0, 0, [], none),
  (57, .ireturn, 1, 0, 0, 0, [], none)]
set_option maxRecDepth 100000 in
theorem kX9_bare : ab_def_ok mX9_bare rX9_bare := ⟨ab_mok_of 1775 108 1773 1774 (by decide +kernel), [0, 0, 1192, 0, 0, 0, 0, 0, 1206, 0, 0, 0, 1200, 0, 0, 0, 1648, 0, 0, 0, 0, 0, 0, 0, 0, 0, 0, 0, 0, 1192, 0, 0], by decide +kernel⟩
set_option maxRecDepth 100000 in
theorem vX9_bare_0 {x : ab_Cx} {d mc ms : Nat} {Post : Option ab_V → List ab_Ob → Prop} (hx : ab_At x mX9_bare d mc ms Post) (a1 : Int) (w0 : ab_Ob) (kc ks : Nat)
    (h : ab_J x 9 [some (ab_O 0), some (ab_I a1), some (ab_I 0), some (ab_I 0)] [] [(ab_pf w0 0 0)] kc ks) :
    ab_J x 0 [some (ab_O 0), some (ab_I a1), none, none] [] [w0] kc ks := ab_go hx kX9_bare.2 12 [(9, [true, true, true, true])] 0 h
set_option maxRecDepth 100000 in
theorem vX9_bare_9 {x : ab_Cx} {d mc ms : Nat} {Post : Option ab_V → List ab_Ob → Prop} (hx : ab_At x mX9_bare d mc ms Post) (l1 l2 l3 : Int) (w0 : ab_Ob) (kc ks : Nat)
    (h : (((w0.1 14) = 0 → Post (some (ab_I 0)) [(ab_pf w0 0 1)]) ∧ (¬ (w0.1 14) = 0 → (((w0.1 8) ≤ l3 → Post (some (ab_I 0)) [(ab_pf w0 0 1)]) ∧ (¬ (w0.1 8) ≤ l3 → (∃ Q1 : Option ab_V → List ab_Ob → Prop, ab_Ct d 0 0 mX9_underOne [ab_O 0, ab_I l3] [w0] Q1 ∧ (∀ r2 : Int, Q1 (some (ab_I r2)) [w0] → ((r2 ≤ 0 → ((¬ l2 = l1 → ((-2147483648 ≤ l2 + 1 ∧ l2 + 1 ≤ 2147483647) ∧ ((-2147483648 ≤ l3 + 1 ∧ l3 + 1 ≤ 2147483647) ∧ ab_J x 9 [some (ab_O 0), some (ab_I l1), some (ab_I (l2 + 1)), some (ab_I (l3 + 1))] [] [w0] kc ks))) ∧ (l2 = l1 → Post (some (ab_I l3)) [w0]))) ∧ (¬ r2 ≤ 0 → ((-2147483648 ≤ l3 + 1 ∧ l3 + 1 ≤ 2147483647) ∧ ab_J x 9 [some (ab_O 0), some (ab_I l1), some (ab_I l2), some (ab_I (l3 + 1))] [] [w0] kc ks)))))))))) :
    ab_J x 9 [some (ab_O 0), some (ab_I l1), some (ab_I l2), some (ab_I l3)] [] [w0] kc ks := ab_go hx kX9_bare.2 22 [(9, [true, true, true, true])] 9 h
def mX9_size : ab_M := ((yX9_size, cX9_size, 2, (some .int)), ([9], [(0, 0)], [true], false, false, 0), (false, 9, 1))
def rX9_size : List ab_R := [(0, .aload_n 0, 1, 0, 0, 0, [], none),
  (1, .iconst 0, 1, 0, 0, 0, [], none),
  (2, .putfield 100, 3, 9, 0, 0, [], none),
  (5, .iload_n 1, 1, 0, 0, 0, [], none),
  (6, .ifCond .ne 10, 3, 0, 0, 0, [16], none),
  (9, .aload_n 0, 1, 0, 0, 0, [], none),
  (10, .getfield 226, 3, 9, 17, 0, [], none),
  (13, .goto 54, 3, 0, 0, 0, [67], none),
  (16, .iload_n 1, 1, 0, 0, 0, [], none),
  (17, .iconst 1, 1, 0, 0, 0, [], none),
  (18, .if_icmp .ne 21, 3, 0, 0, 0, [39], none),
  (21, .aload_n 0, 1, 0, 0, 0, [], none),
  (22, .getfield 235, 3, 9, 14, 0, [], none),
  (25, .ifCond .eq 10, 3, 0, 0, 0, [35], none),
  (28, .aload_n 0, 1, 0, 0, 0, [], none),
  (29, .getfield 249, 3, 9, 9, 0, [], none),
  (32, .goto 35, 3, 0, 0, 0, [67], none),
  (35, .iconst 0, 1, 0, 0, 0, [], none),
  (36, .goto 31, 3, 0, 0, 0, [67], none),
  (39, .iload_n 1, 1, 0, 0, 0, [], none),
  (40, .iconst 2, 1, 0, 0, 0, [], none),
  (41, .if_icmp .ne 25, 3, 0, 0, 0, [66], none),
  (44, .aload_n 0, 1, 0, 0, 0, [], none),
  (45, .getfield 235, 3, 9, 14, 0, [], none),
  (48, .ifCond .eq 14, 3, 0, 0, 0, [62], none),
  (51, .aload_n 0, 1, 0, 0, 0, [], none),
  (52, .getfield 239, 3, 9, 15, 0, [], none),
  (55, .ifCond .eq 7, 3, 0, 0, 0, [62], none),
  (58, .iconst 1, 1, 0, 0, 0, [], none),
  (59, .goto 8, 3, 0, 0, 0, [67], none),
  (62, .iconst 0, 1, 0, 0, 0, [], none),
  (63, .goto 4, 3, 0, 0, 0, [67], none),
  (66, .iconst (-1), 1, 0, 0, 0, [], none),
  (67, .ireturn, 1, 0, 0, 0, [], none)]
set_option maxRecDepth 100000 in
theorem kX9_size : ab_def_ok mX9_size rX9_size := ⟨ab_mok_of 1779 108 1777 1778 (by decide +kernel), [0, 0, 1192, 0, 0, 0, 1209, 0, 0, 0, 0, 0, 1206, 0, 0, 1201, 0, 0, 0, 0, 0, 0, 0, 1206, 0, 0, 1207, 0, 0, 0, 0, 0, 0, 0], by decide +kernel⟩
set_option maxRecDepth 100000 in
theorem vX9_size_0 {x : ab_Cx} {d mc ms : Nat} {Post : Option ab_V → List ab_Ob → Prop} (hx : ab_At x mX9_size d mc ms Post) (a1 : Int) (w0 : ab_Ob) (kc ks : Nat)
    (h : ((¬ a1 = 0 → ((¬ a1 = 1 → ((¬ a1 = 2 → Post (some (ab_I (-1))) [(ab_pf w0 0 0)]) ∧ (a1 = 2 → (((w0.1 14) = 0 → Post (some (ab_I 0)) [(ab_pf w0 0 0)]) ∧ (¬ (w0.1 14) = 0 → (((w0.1 15) = 0 → Post (some (ab_I 0)) [(ab_pf w0 0 0)]) ∧ (¬ (w0.1 15) = 0 → Post (some (ab_I 1)) [(ab_pf w0 0 0)]))))))) ∧ (a1 = 1 → (((w0.1 14) = 0 → Post (some (ab_I 0)) [(ab_pf w0 0 0)]) ∧ (¬ (w0.1 14) = 0 → Post (some (ab_I (w0.1 9))) [(ab_pf w0 0 0)]))))) ∧ (a1 = 0 → Post (some (ab_I (w0.1 17))) [(ab_pf w0 0 0)]))) :
    ab_J x 0 [some (ab_O 0), some (ab_I a1)] [] [w0] kc ks := ab_go hx kX9_size.2 24 [] 0 h
def mX9_trouble : ab_M := ((yX9_trouble, cX9_trouble, 1, (some .int)), ([9], [(0, 0)], [true], false, false, 0), (false, 9, 0))
def rX9_trouble : List ab_R := [(0, .aload_n 0, 1, 0, 0, 0, [], none),
  (1, .iconst 0, 1, 0, 0, 0, [], none),
  (2, .putfield 100, 3, 9, 0, 0, [], none),
  (5, .aload_n 0, 1, 0, 0, 0, [], none),
  (6, .getfield 103, 3, 9, 1, 0, [], none),
  (9, .ireturn, 1, 0, 0, 0, [], none)]
set_option maxRecDepth 100000 in
theorem kX9_trouble : ab_def_ok mX9_trouble rX9_trouble := ⟨ab_mok_of 1783 108 1781 1782 (by decide +kernel), [0, 0, 1192, 0, 1193, 0], by decide +kernel⟩
set_option maxRecDepth 100000 in
theorem vX9_trouble_0 {x : ab_Cx} {d mc ms : Nat} {Post : Option ab_V → List ab_Ob → Prop} (hx : ab_At x mX9_trouble d mc ms Post) (w0 : ab_Ob) (kc ks : Nat)
    (h : Post (some (ab_I (w0.1 1))) [(ab_pf w0 0 0)]) :
    ab_J x 0 [some (ab_O 0)] [] [w0] kc ks := ab_go hx kX9_trouble.2 10 [] 0 h
