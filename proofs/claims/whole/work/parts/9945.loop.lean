/-! THE LAW: its loop -/
theorem lw_sw_all {k : Nat → Prop} {x hi : Int} : ∀ {ts : List Nat} {v : Int}, (∀ t ∈ ts, k t) → ab_sw x hi v ts k
  | [], _, _ => trivial
  | t :: ts, v, h => ⟨fun _ => h t List.mem_cons_self, lw_sw_all (fun t' ht => h t' (List.mem_cons_of_mem _ ht))⟩
theorem d_23 : decode code 23 = .ok (.iload 4, 2) := by decide +kernel
theorem d_25 : decode code 25 = .ok (.aload_n 0, 1) := by decide +kernel
theorem d_26 : decode code 26 = .ok (.arraylength, 1) := by decide +kernel
theorem d_27 : decode code 27 = .ok (.bipush 6, 2) := by decide +kernel
theorem d_29 : decode code 29 = .ok (.isub, 1) := by decide +kernel
theorem d_30 : decode code 30 = .ok (.if_icmp .gt 1726, 3) := by decide +kernel
theorem d_33 : decode code 33 = .ok (.aload_n 0, 1) := by decide +kernel
theorem d_34 : decode code 34 = .ok (.iload 4, 2) := by decide +kernel
theorem d_36 : decode code 36 = .ok (.iaload, 1) := by decide +kernel
theorem d_37 : decode code 37 = .ok (.bipush 63, 2) := by decide +kernel
theorem d_39 : decode code 39 = .ok (.iand, 1) := by decide +kernel
theorem d_40 : decode code 40 = .ok (.tableswitch 1710 0 45 #[200, 273, 298, 311, 324, 349, 386, 411, 448, 485, 522, 571, 609, 658, 695, 768, 781, 818, 843, 856, 881, 930, 955, 992, 1017, 1042, 1079, 1116, 1141, 1194, 1231, 1268, 1317, 1342, 1391, 1404, 1429, 1442, 1479, 1516, 1553, 1578, 1603, 1616, 1672, 1697], 200) := by decide +kernel
theorem d_1750 : decode code 1750 = .ok (.iinc 4 6, 3) := by decide +kernel
theorem d_1753 : decode code 1753 = .ok (.goto (-1730), 3) := by decide +kernel
theorem d_1756 : decode code 1756 = .ok (.iconst 1, 1) := by decide +kernel
theorem d_1757 : decode code 1757 = .ok (.ireturn, 1) := by decide +kernel
def lw_ts : List Nat := [240, 313, 338, 351, 364, 389, 426, 451, 488, 525, 562, 611, 649, 698, 735, 808, 821, 858, 883, 896, 921, 970, 995, 1032, 1057, 1082, 1119, 1156, 1181, 1234, 1271, 1308, 1357, 1382, 1431, 1444, 1469, 1482, 1519, 1556, 1593, 1618, 1643, 1656, 1712, 1737]
/-- its end -/
theorem lw_exit {C : lw_C} {L : Nat} {xs : Nat → Int32} (K : lw_ok C L xs) {ad0 : Nat → Nat → Nat} {lv : List (Option ab_V)} {ws : List ab_Ob} {kc ks : Nat} : ab_J (lw_x C ad0) 1756 lv [] ws kc ks := by
  have X := K.2.1 ad0
  intro ad H locs ls h1 h2 h3 h4 h5 h6 h7 h8 h9
  refine lv_iconst (v := 1) X.ex X.cd d_1756 (by decide) ?_
  refine va_forget (fun q hq => h4.2.2 q hq) ?_
  refine W.widen h9.1 h9.2 ?_
  exact lw_ret X.ex X.cd X.rt X.lk d_1757
/-- one turn -/
theorem lw_turn {C : lw_C} {L : Nat} {xs : Nat → Int32} (K : lw_ok2 C L xs) {i : Int} (hi : 0 ≤ i ∧ i ≤ L + 6) {A B : Nat} (hA : A + 1 ≤ 601024) (hB : B + 6 ≤ 7293034) (kN : i + 6 ≤ L → ∀ ad0 o, lw_N C ad0 1750 i o (A + 1) (B + 6)) {ad0 : Nat → Nat → Nat} {o : ab_Ob} : lw_N C ad0 23 i o A B := by
  intro x rd dr b ac sp cn wh sw swc swt kp t1 t2 ly wi m kc ks h hk1 hs1
  have X := K.1.2.1 ad0
  have hL := K.1.1
  refine ab_r_iload X (i := 4) d_23 ?_
  refine ab_r_aload_n X (i := 0) d_25 ?_
  refine lw_slen X K.1.2.2.1 K.1.2.2.2.1 K.1.2.2.2.2 (Nat.not_le.mpr K.1.2.2.2.2) hL d_26 ?_
  refine ab_r_bipush X (z := 6) ⟨by decide, by decide⟩ d_27 ?_
  refine ab_r_isub X d_29 ⟨⟨by omega, by omega⟩, ?_⟩
  refine ab_r_icmp X (cn := .gt) (t := 1756) (by decide) d_30 ⟨fun _ => lw_exit K.1, fun g => ?_⟩
  have hi6 : 0 ≤ i ∧ i + 6 ≤ L := by omega
  have kN' : ∀ ad0 o, lw_N C ad0 1750 i o A B := fun a p => lw_N_le (kN hi6.2 a p) (by omega) (by omega)
  have hA' : A ≤ 601024 := by omega
  have hB' : B ≤ 7293034 := by omega
  have all : ∀ t ∈ lw_ts, ab_J (lw_x C ad0) t (lw_lv i) [] [x, rd, dr, b, ac, sp, cn, wh, sw, swc, swt, kp, t1, t2, ly, wi, o, m] kc ks := by
    unfold lw_ts
    refine List.forall_mem_cons.mpr ⟨(lw_c0 K.1 hi6 hA' hB' (kN' ad0 o)) _ _ _ _ _ _ _ _ _ _ _ _ _ _ _ _ _ _ _ h hk1 hs1, ?_⟩
    refine List.forall_mem_cons.mpr ⟨(lw_c1 K.1 hi6 hA' hB' (fun a => kN' a o)) _ _ _ _ _ _ _ _ _ _ _ _ _ _ _ _ _ _ _ h hk1 hs1, ?_⟩
    refine List.forall_mem_cons.mpr ⟨(lw_c2 K.1 hi6 hA' hB' (kN' ad0 o)) _ _ _ _ _ _ _ _ _ _ _ _ _ _ _ _ _ _ _ h hk1 hs1, ?_⟩
    refine List.forall_mem_cons.mpr ⟨(lw_c3 K.1 hi6 hA' hB' (kN' ad0 o)) _ _ _ _ _ _ _ _ _ _ _ _ _ _ _ _ _ _ _ h hk1 hs1, ?_⟩
    refine List.forall_mem_cons.mpr ⟨(lw_c4 K.1 hi6 hA' hB' (kN' ad0 o)) _ _ _ _ _ _ _ _ _ _ _ _ _ _ _ _ _ _ _ h hk1 hs1, ?_⟩
    refine List.forall_mem_cons.mpr ⟨(lw_c5 K.1 hi6 hA' hB' (kN' ad0 o)) _ _ _ _ _ _ _ _ _ _ _ _ _ _ _ _ _ _ _ h hk1 hs1, ?_⟩
    refine List.forall_mem_cons.mpr ⟨(lw_c6 K.1 hi6 hA' hB' (kN' ad0 o)) _ _ _ _ _ _ _ _ _ _ _ _ _ _ _ _ _ _ _ h hk1 hs1, ?_⟩
    refine List.forall_mem_cons.mpr ⟨(lw_c7 K.1 hi6 hA' hB' (kN' ad0 o)) _ _ _ _ _ _ _ _ _ _ _ _ _ _ _ _ _ _ _ h hk1 hs1, ?_⟩
    refine List.forall_mem_cons.mpr ⟨(lw_c8 K.1 hi6 hA' hB' (kN' ad0 o)) _ _ _ _ _ _ _ _ _ _ _ _ _ _ _ _ _ _ _ h hk1 hs1, ?_⟩
    refine List.forall_mem_cons.mpr ⟨(lw_c9 K.1 hi6 hA' hB' (kN' ad0 o)) _ _ _ _ _ _ _ _ _ _ _ _ _ _ _ _ _ _ _ h hk1 hs1, ?_⟩
    refine List.forall_mem_cons.mpr ⟨(lw_c10 K.1 hi6 hA' hB' (kN' ad0 o)) _ _ _ _ _ _ _ _ _ _ _ _ _ _ _ _ _ _ _ h hk1 hs1, ?_⟩
    refine List.forall_mem_cons.mpr ⟨(lw_c11 K.1 hi6 hA' hB' (kN' ad0 o)) _ _ _ _ _ _ _ _ _ _ _ _ _ _ _ _ _ _ _ h hk1 hs1, ?_⟩
    refine List.forall_mem_cons.mpr ⟨(lw_c12 K.1 hi6 hA' hB' (kN' ad0 o)) _ _ _ _ _ _ _ _ _ _ _ _ _ _ _ _ _ _ _ h hk1 hs1, ?_⟩
    refine List.forall_mem_cons.mpr ⟨(lw_c13 K.1 hi6 hA' hB' (kN' ad0 o)) _ _ _ _ _ _ _ _ _ _ _ _ _ _ _ _ _ _ _ h hk1 hs1, ?_⟩
    refine List.forall_mem_cons.mpr ⟨(lw_c14 K.1 hi6 hA' hB' (kN' ad0 o)) _ _ _ _ _ _ _ _ _ _ _ _ _ _ _ _ _ _ _ h hk1 hs1, ?_⟩
    refine List.forall_mem_cons.mpr ⟨(lw_c15 K.1 hi6 hA' hB' (kN' ad0 o)) _ _ _ _ _ _ _ _ _ _ _ _ _ _ _ _ _ _ _ h hk1 hs1, ?_⟩
    refine List.forall_mem_cons.mpr ⟨(lw_c16 K.1 hi6 hA' hB' (kN' ad0 o)) _ _ _ _ _ _ _ _ _ _ _ _ _ _ _ _ _ _ _ h hk1 hs1, ?_⟩
    refine List.forall_mem_cons.mpr ⟨(lw_c17 K.1 hi6 hA' hB' (kN' ad0 o)) _ _ _ _ _ _ _ _ _ _ _ _ _ _ _ _ _ _ _ h hk1 hs1, ?_⟩
    refine List.forall_mem_cons.mpr ⟨(lw_c18 K.1 hi6 hA' hB' (kN' ad0 o)) _ _ _ _ _ _ _ _ _ _ _ _ _ _ _ _ _ _ _ h hk1 hs1, ?_⟩
    refine List.forall_mem_cons.mpr ⟨(lw_c19 K.1 hi6 hA' hB' (kN' ad0 o)) _ _ _ _ _ _ _ _ _ _ _ _ _ _ _ _ _ _ _ h hk1 hs1, ?_⟩
    refine List.forall_mem_cons.mpr ⟨(lw_c20 K.1 hi6 hA' hB' (kN' ad0 o)) _ _ _ _ _ _ _ _ _ _ _ _ _ _ _ _ _ _ _ h hk1 hs1, ?_⟩
    refine List.forall_mem_cons.mpr ⟨(lw_c21 K.1 hi6 hA' hB' (kN' ad0 o)) _ _ _ _ _ _ _ _ _ _ _ _ _ _ _ _ _ _ _ h hk1 hs1, ?_⟩
    refine List.forall_mem_cons.mpr ⟨(lw_c22 K.1 hi6 hA' hB' (kN' ad0 o)) _ _ _ _ _ _ _ _ _ _ _ _ _ _ _ _ _ _ _ h hk1 hs1, ?_⟩
    refine List.forall_mem_cons.mpr ⟨(lw_c23 K.1 hi6 hA' hB' (kN' ad0 o)) _ _ _ _ _ _ _ _ _ _ _ _ _ _ _ _ _ _ _ h hk1 hs1, ?_⟩
    refine List.forall_mem_cons.mpr ⟨(lw_c24 K.1 hi6 hA' hB' (kN' ad0 o)) _ _ _ _ _ _ _ _ _ _ _ _ _ _ _ _ _ _ _ h hk1 hs1, ?_⟩
    refine List.forall_mem_cons.mpr ⟨(lw_c25 K.1 hi6 hA' hB' (kN' ad0 o)) _ _ _ _ _ _ _ _ _ _ _ _ _ _ _ _ _ _ _ h hk1 hs1, ?_⟩
    refine List.forall_mem_cons.mpr ⟨(lw_c26 K.1 hi6 hA' hB' (kN' ad0 o)) _ _ _ _ _ _ _ _ _ _ _ _ _ _ _ _ _ _ _ h hk1 hs1, ?_⟩
    refine List.forall_mem_cons.mpr ⟨(lw_c27 K.1 hi6 hA' hB' (kN' ad0 o)) _ _ _ _ _ _ _ _ _ _ _ _ _ _ _ _ _ _ _ h hk1 hs1, ?_⟩
    refine List.forall_mem_cons.mpr ⟨(lw_c28 K.1 hi6 hA' hB' (kN' ad0 o)) _ _ _ _ _ _ _ _ _ _ _ _ _ _ _ _ _ _ _ h hk1 hs1, ?_⟩
    refine List.forall_mem_cons.mpr ⟨(lw_c29 K.1 hi6 hA' hB' (kN' ad0 o)) _ _ _ _ _ _ _ _ _ _ _ _ _ _ _ _ _ _ _ h hk1 hs1, ?_⟩
    refine List.forall_mem_cons.mpr ⟨(lw_c30 K.1 hi6 hA' hB' (kN' ad0 o)) _ _ _ _ _ _ _ _ _ _ _ _ _ _ _ _ _ _ _ h hk1 hs1, ?_⟩
    refine List.forall_mem_cons.mpr ⟨(lw_c31 K.1 hi6 hA' hB' (kN' ad0 o)) _ _ _ _ _ _ _ _ _ _ _ _ _ _ _ _ _ _ _ h hk1 hs1, ?_⟩
    refine List.forall_mem_cons.mpr ⟨(lw_c32 K.1 hi6 hA' hB' (kN' ad0 o)) _ _ _ _ _ _ _ _ _ _ _ _ _ _ _ _ _ _ _ h hk1 hs1, ?_⟩
    refine List.forall_mem_cons.mpr ⟨(lw_c33 K.1 hi6 hA' hB' (kN' ad0 o)) _ _ _ _ _ _ _ _ _ _ _ _ _ _ _ _ _ _ _ h hk1 hs1, ?_⟩
    refine List.forall_mem_cons.mpr ⟨(lw_c34 K.1 hi6 hA' hB' (kN' ad0 o)) _ _ _ _ _ _ _ _ _ _ _ _ _ _ _ _ _ _ _ h hk1 hs1, ?_⟩
    refine List.forall_mem_cons.mpr ⟨(lw_c35 K.1 hi6 hA' hB' (kN' ad0 o)) _ _ _ _ _ _ _ _ _ _ _ _ _ _ _ _ _ _ _ h hk1 hs1, ?_⟩
    refine List.forall_mem_cons.mpr ⟨(lw_c36 K.1 hi6 hA' hB' (kN' ad0 o)) _ _ _ _ _ _ _ _ _ _ _ _ _ _ _ _ _ _ _ h hk1 hs1, ?_⟩
    refine List.forall_mem_cons.mpr ⟨(lw_c37 K.1 hi6 hA' hB' (kN' ad0 o)) _ _ _ _ _ _ _ _ _ _ _ _ _ _ _ _ _ _ _ h hk1 hs1, ?_⟩
    refine List.forall_mem_cons.mpr ⟨(lw_c38 K.1 hi6 hA' hB' (kN' ad0 o)) _ _ _ _ _ _ _ _ _ _ _ _ _ _ _ _ _ _ _ h hk1 hs1, ?_⟩
    refine List.forall_mem_cons.mpr ⟨(lw_c39 K.1 hi6 hA' hB' (kN' ad0 o)) _ _ _ _ _ _ _ _ _ _ _ _ _ _ _ _ _ _ _ h hk1 hs1, ?_⟩
    refine List.forall_mem_cons.mpr ⟨(lw_c40 K.1 hi6 hA' hB' (kN' ad0 o)) _ _ _ _ _ _ _ _ _ _ _ _ _ _ _ _ _ _ _ h hk1 hs1, ?_⟩
    refine List.forall_mem_cons.mpr ⟨(lw_c41 K.1 hi6 hA' hB' (kN' ad0 o)) _ _ _ _ _ _ _ _ _ _ _ _ _ _ _ _ _ _ _ h hk1 hs1, ?_⟩
    refine List.forall_mem_cons.mpr ⟨(lw_c42 K.1 hi6 hA' hB' (kN' ad0 o)) _ _ _ _ _ _ _ _ _ _ _ _ _ _ _ _ _ _ _ h hk1 hs1, ?_⟩
    refine List.forall_mem_cons.mpr ⟨(lw_c43 K hi6 hA hB (kN hi6.2)) _ _ _ _ _ _ _ _ _ _ _ _ _ _ _ _ _ _ _ h hk1 hs1, ?_⟩
    refine List.forall_mem_cons.mpr ⟨(lw_c44 K.1 hi6 hA' hB' (kN' ad0 o)) _ _ _ _ _ _ _ _ _ _ _ _ _ _ _ _ _ _ _ h hk1 hs1, ?_⟩
    refine List.forall_mem_cons.mpr ⟨(lw_c45 K.1 hi6 hA' hB' (kN' ad0 o)) _ _ _ _ _ _ _ _ _ _ _ _ _ _ _ _ _ _ _ h hk1 hs1, ?_⟩
    exact fun _ h => absurd h List.not_mem_nil
  refine ab_r_aload_n X (i := 0) d_33 ?_
  refine ab_r_iload X (i := 4) d_34 ?_
  refine lw_sld X K.1.2.2.1 K.1.2.2.2.1 K.1.2.2.2.2 (Nat.not_le.mpr K.1.2.2.2.2) (i := i) ⟨hi6.1, by omega⟩ d_36 ?_
  refine ab_r_bipush X (z := 63) ⟨by decide, by decide⟩ d_37 ?_
  refine ab_r_iand X d_39 ?_
  exact ab_r_switch X (t0 := 1750) (ts := lw_ts) d_40 (by decide) (by decide) (by decide) ⟨fun _ => kN' ad0 o _ _ _ _ _ _ _ _ _ _ _ _ _ _ _ _ _ _ _ h hk1 hs1, lw_sw_all all⟩
/-- all turns -/
theorem lw_loop {C : lw_C} {L : Nat} {xs : Nat → Int32} (K : lw_ok2 C L xs) : ∀ (n : Nat) (i : Int) (A B : Nat), 0 ≤ i → i ≤ L + 6 → (L : Int) ≤ i + 6 * n → A + n + 1 ≤ 601024 → B + 6 * n + 6 ≤ 7293034 → ∀ ad0 o, lw_N C ad0 23 i o A B
  | 0, i, A, B, h0, h1, h2, hA, hB, ad0, o => lw_turn K ⟨h0, h1⟩ (by omega) (by omega) (fun g => absurd h2 (by omega))
  | n + 1, i, A, B, h0, h1, h2, hA, hB, ad0, o => lw_turn K ⟨h0, h1⟩ (by omega) (by omega) (fun g ad0 o => by
    have nx := lw_loop K n (i + 6) (A + 1) (B + 6) (by omega) (by omega) (by push_cast at h2; omega) (by omega) (by omega) ad0 o
    intro x rd dr b ac sp cn wh sw swc swt kp t1 t2 ly wi m kc ks h hk1 hs1
    have X := K.1.2.1 ad0
    have hL := K.1.1
    refine ab_r_iinc X (i := 4) (n := 6) (z := i) (show (4 : Nat) < 7 by decide) rfl d_1750 ⟨⟨by omega, by omega⟩, ?_⟩
    refine ab_r_goto X (t := 23) (by decide) d_1753 ?_
    exact nx _ _ _ _ _ _ _ _ _ _ _ _ _ _ _ _ _ _ _ h hk1 hs1)
