/-! Math.floorMod -/
def rJ_floorMod : List ab_R := [(0, .iload_n 0, 1, 0, 0, 0, [], none),
  (1, .iload_n 1, 1, 0, 0, 0, [], none),
  (2, .irem, 1, 0, 0, 0, [], none),
  (3, .istore_n 2, 1, 0, 0, 0, [], none),
  (4, .iload_n 0, 1, 0, 0, 0, [], none),
  (5, .iload_n 1, 1, 0, 0, 0, [], none),
  (6, .ixor, 1, 0, 0, 0, [], none),
  (7, .ifCond .ge 11, 3, 0, 0, 0, [18], none),
  (10, .iload_n 2, 1, 0, 0, 0, [], none),
  (11, .ifCond .eq 7, 3, 0, 0, 0, [18], none),
  (14, .iload_n 2, 1, 0, 0, 0, [], none),
  (15, .iload_n 1, 1, 0, 0, 0, [], none),
  (16, .iadd, 1, 0, 0, 0, [], none),
  (17, .ireturn, 1, 0, 0, 0, [], none),
  (18, .iload_n 2, 1, 0, 0, 0, [], none),
  (19, .ireturn, 1, 0, 0, 0, [], none)]
set_option maxRecDepth 100000 in
theorem kJ_floorMod : ab_def_ok mJ_floorMod rJ_floorMod := ⟨ab_mok_of 607 111 606 0 (by decide +kernel), [0, 0, 0, 0, 0, 0, 0, 0, 0, 0, 0, 0, 0, 0, 0, 0], by decide +kernel⟩
set_option maxRecDepth 100000 in
theorem vJ_floorMod_0 {x : ab_Cx} {d mc ms : Nat} {Post : Option ab_V → List ab_Ob → Prop} (hx : ab_At x mJ_floorMod d mc ms Post) (a0 a1 : Int) (kc ks : Nat)
    (h : ((¬ a1 = 0) ∧ ((-2147483648 ≤ (Int.tmod a0 a1) ∧ (Int.tmod a0 a1) ≤ 2147483647) ∧ ((0 ≤ ((Int32.ofInt a0 ^^^ Int32.ofInt a1).toInt) → Post (some (ab_I (Int.tmod a0 a1))) []) ∧ (¬ 0 ≤ ((Int32.ofInt a0 ^^^ Int32.ofInt a1).toInt) → (((Int.tmod a0 a1) = 0 → Post (some (ab_I (Int.tmod a0 a1))) []) ∧ (¬ (Int.tmod a0 a1) = 0 → ((-2147483648 ≤ (Int.tmod a0 a1) + a1 ∧ (Int.tmod a0 a1) + a1 ≤ 2147483647) ∧ Post (some (ab_I ((Int.tmod a0 a1) + a1))) [])))))))) :
    ab_J x 0 [some (ab_I a0), some (ab_I a1), none] [] [] kc ks := ab_go hx kJ_floorMod.2 18 [] 0 h
