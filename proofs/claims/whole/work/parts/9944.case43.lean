/-! THE LAW: bare -/
def lw_ok2 (C : lw_C) (L : Nat) (xs : Nat → Int32) : Prop := lw_ok C L xs ∧ bl_E C.2.2 ∧ bx_K (fun q => (lw_s C).heap.size ≤ q) (lw_s C) (lw_s C).heap ∧ C.1.2.1.stackTraces = false
abbrev lw_l5 (i z : Int) (v : Option ab_V) : List (Option ab_V) := [some (ab_S 12), some (ab_O 0), some (ab_O 17), some (ab_O 16), some (ab_I i), some (ab_I z), v]
theorem lw_a5 {C : lw_C} {L : Nat} {xs : Nat → Int32} (K : lw_ok C L xs) {ad0 : Nat → Nat → Nat} {pc : Nat} {st : List ab_V} {ws : List ab_Ob} {kc ks : Nat} {i z : Int} {v : Option ab_V} (hi : 0 ≤ i ∧ i + 6 ≤ L) {j : Nat} (hj : j < 6) (hd : lw_aB pc j = true) (k : ab_J (lw_x C ad0) (pc + 6) (lw_l5 i z v) (ab_I (sc xs (i + j)) :: st) ws kc ks) : ab_J (lw_x C ad0) pc (lw_l5 i z v) st ws kc ks := by
  have X := K.2.1 ad0
  have hL := K.1
  simp only [lw_aB, Bool.and_eq_true, decide_eq_true_eq] at hd
  obtain ⟨d0, d1, d2, d3, d4⟩ := hd
  refine ab_r_aload_n X (i := 0) d0 ?_
  refine ab_r_iload X (i := 4) d1 ?_
  refine ab_r_iconst X (z := (j : Int)) ⟨by omega, by omega⟩ d2 ?_
  refine ab_r_iadd X d3 ⟨⟨by omega, by omega⟩, ?_⟩
  exact lw_sld X K.2.2.1 K.2.2.2.1 K.2.2.2.2 (Nat.not_le.mpr K.2.2.2.2) (i := i + j) ⟨by omega, by omega⟩ d4 k
theorem hR_bare {x rd dr b ac sp cn wh sw swc swt kp t1 t2 ly wi m x' sp' wh' : ab_Ob} (h : hR x rd dr b ac sp cn wh sw swc swt kp t1 t2 ly wi m) (hF' : hF x' b sp' cn wh') (hx : ∀ f, f ≠ 5 → f ≠ 9 → x'.1 f = x.1 f) (z : Int) : hR x' rd dr b ac sp' cn wh' sw swc swt kp t1 t2 ly wi (ab_pf m 0 z) := by
  obtain ⟨h1, h2, h3, h4, h5, h6, h7, h8, h9, h10⟩ := h
  have e0 := hx 0 (by decide) (by decide)
  have e12 := hx 12 (by decide) (by decide)
  refine ⟨h1, ⟨hF', h2.2⟩, h3, h4, h5, h6, h7, ⟨by rw [e0]; exact h8.1, by rw [e0]; exact h8.2⟩, h9, ?_⟩
  unfold hKp
  rw [e12]
  exact h10
theorem d_1656 : decode code 1656 = .ok (.aload_n 1, 1) := by decide +kernel
theorem d_1663 : decode code 1663 = .ok (.aload_n 3, 1) := by decide +kernel
theorem d_1664 : decode code 1664 = .ok (.invokestatic 198, 3) := by decide +kernel
theorem d_1667 : decode code 1667 = .ok (.istore 5, 2) := by decide +kernel
theorem d_1669 : decode code 1669 = .ok (.aload_n 2, 1) := by decide +kernel
theorem d_1676 : decode code 1676 = .ok (.invokevirtual 203, 3) := by decide +kernel
theorem d_1679 : decode code 1679 = .ok (.istore 6, 2) := by decide +kernel
theorem d_1681 : decode code 1681 = .ok (.aload_n 2, 1) := by decide +kernel
theorem d_1682 : decode code 1682 = .ok (.invokevirtual 204, 3) := by decide +kernel
theorem d_1685 : decode code 1685 = .ok (.iload 5, 2) := by decide +kernel
theorem d_1687 : decode code 1687 = .ok (.if_icmp .eq 5, 3) := by decide +kernel
theorem d_1692 : decode code 1692 = .ok (.iload 5, 2) := by decide +kernel
theorem d_1694 : decode code 1694 = .ok (.ifCond .ne 15, 3) := by decide +kernel
theorem d_1697 : decode code 1697 = .ok (.aload_n 3, 1) := by decide +kernel
theorem d_1698 : decode code 1698 = .ok (.iconst 0, 1) := by decide +kernel
theorem d_1699 : decode code 1699 = .ok (.laload, 1) := by decide +kernel
theorem d_1700 : decode code 1700 = .ok (.iload 6, 2) := by decide +kernel
theorem d_1702 : decode code 1702 = .ok (.i2l, 1) := by decide +kernel
theorem d_1703 : decode code 1703 = .ok (.lcmp, 1) := by decide +kernel
theorem d_1704 : decode code 1704 = .ok (.ifCond .eq 5, 3) := by decide +kernel
theorem d_1709 : decode code 1709 = .ok (.goto 41, 3) := by decide +kernel
/-- the comparison at its end -/
theorem lw_43t {C : lw_C} {L : Nat} {xs : Nat → Int32} (K : lw_ok2 C L xs) {ad2 : Nat → Nat → Nat} {i z r : Int} {x rd dr b ac sp cn wh sw swc swt kp t1 t2 ly wi o m : ab_Ob} {kc ks : Nat} (hz : m.1 0 = z) (ho : z = 0 → o.1 0 = r) (hr : kc ≤ 601024 ∧ ks ≤ 7293034) (kN : ab_J (lw_x C ad2) 1750 (lw_lv i) [] [x, rd, dr, b, ac, sp, cn, wh, sw, swc, swt, kp, t1, t2, ly, wi, o, m] kc ks) : ab_J (lw_x C ad2) 1679 (lw_l5 i z none) [ab_I r] [x, rd, dr, b, ac, sp, cn, wh, sw, swc, swt, kp, t1, t2, ly, wi, o, m] kc ks := by
  have X := K.1.2.1 ad2
  refine ab_r_istore X (i := 6) (show (6 : Nat) < 7 by decide) d_1679 ?_
  refine ab_r_aload_n X (i := 2) d_1681 ?_
  show ab_J (lw_x C ad2) 1682 (lw_l5 i z (some (ab_I r))) ((ab_O 17 :: []).reverse ++ []) [x, rd, dr, b, ac, sp, cn, wh, sw, swc, swt, kp, t1, t2, ly, wi, o, m] kc ks
  refine lw_inv X (M := mX9_thrown) (pl := [17]) (G' := [9]) (ws' := [m]) (as' := [ab_O 0]) (c9_thrown 12 m) (show .methodLink "HeadTreesLaw" 204 (ab_nm mX9_thrown) ∈ ab_gw from ab_lk_in (p := 1349) (by decide +kernel)) rfl rfl d_1682 rfl (by decide) rfl rfl rfl (by decide) rfl (by decide) (Nat.le_of_ble_eq_true rfl) (fun _ => ⟨rfl, rfl, rfl⟩) hr (fun rv ws'' hq => ?_)
  obtain ⟨_, e1, e2⟩ := hq
  subst e1
  subst e2
  refine ⟨[ab_I (m.1 0)], rfl, ?_⟩
  rw [hz]
  show ab_J (lw_x C ad2) 1685 (lw_l5 i z (some (ab_I r))) [ab_I z] [x, rd, dr, b, ac, sp, cn, wh, sw, swc, swt, kp, t1, t2, ly, wi, o, m] kc ks
  refine ab_r_iload X (i := 5) d_1685 ?_
  refine ab_r_icmp X (cn := .eq) (t := 1692) (by decide) d_1687 ⟨fun _ => ?_, fun g => absurd rfl g⟩
  have fin : ab_J (lw_x C ad2) 1709 (lw_l5 i z (some (ab_I r))) [] [x, rd, dr, b, ac, sp, cn, wh, sw, swc, swt, kp, t1, t2, ly, wi, o, m] kc ks := by
    refine ab_r_goto X (t := 1750) (by decide) d_1709 ?_
    exact ab_J_mask (bs := [true, true, true, true, true, false, false]) kN
  refine ab_r_iload X (i := 5) d_1692 ?_
  refine ab_r_if X (cn := .ne) (t := 1709) (by decide) d_1694 ⟨fun _ => fin, fun g => ?_⟩
  refine ab_r_aload_n X (i := 3) d_1697 ?_
  refine ab_r_iconst X (z := 0) ⟨by decide, by decide⟩ d_1698 ?_
  refine bl_lald X K.2.1 (o := 16) (ob := o) rfl rfl d_1699 ?_
  refine ab_r_iload X (i := 6) d_1700 ?_
  refine ab_r_i2l X d_1702 ?_
  refine ab_r_lcmp X d_1703 ?_
  refine ab_r_if X (cn := .eq) (t := 1709) (by decide) d_1704 ⟨fun _ => fin, fun g2 => absurd ?_ g2⟩
  rw [ho g]
  unfold ab_cmp
  rw [if_neg (by omega), if_pos rfl]
theorem lw_c43 {C : lw_C} {L : Nat} {xs : Nat → Int32} (K : lw_ok2 C L xs) {i : Int} (hi : 0 ≤ i ∧ i + 6 ≤ L) {A B : Nat} (hA : A + 1 ≤ 601024) (hB' : B + 6 ≤ 7293034) (kN : ∀ ad0 o, lw_N C ad0 1750 i o (A + 1) (B + 6)) {ad0 : Nat → Nat → Nat} {o : ab_Ob} : lw_N C ad0 1656 i o A B := by
  intro x rd dr b ac sp cn wh sw swc swt kp t1 t2 ly wi m kc ks h hk1 hs1
  have X := K.1.2.1 ad0
  obtain ⟨mc, ms, ⟨bd1, bd2⟩, hC⟩ := h_lbare (x := x) (rd := rd) (dr := dr) (b := b) (ac := ac) (sp := sp) (cn := cn) (wh := wh) (sw := sw) (swc := swc) (swt := swt) (kp := kp) (t1 := t1) (t2 := t2) (ly := ly) (wi := wi) (o := o) h.1 h.2.1.1 (sc xs (i + 1))
  have hkc : ch_k sp ≤ hk sp cn sw swc ∧ ch_s sp ≤ hs sp cn sw swc := hkb1
  refine ab_r_aload_n X (i := 1) d_1656 ?_
  refine lw_a1 K.1 hi (j := 1) (by decide) (by decide +kernel) ?_
  refine ab_r_aload_n X (i := 3) d_1663 ?_
  show ab_J (lw_x C ad0) 1664 (lw_lv i) [ab_O 16, ab_I (sc xs (i + 1)), ab_O 0] [x, rd, dr, b, ac, sp, cn, wh, sw, swc, swt, kp, t1, t2, ly, wi, o, m] kc ks
  intro ad H locs ls h1 h2 h3 h4 h5 h6 h7 h8 h9
  have h2' : ab_W C.2.2 ad (bl_G ++ [9]) (([x, rd, dr, b, ac, sp, cn, wh, sw, swc, swt, kp, t1, t2, ly, wi] ++ [o]) ++ [m]) H := h2
  have h3' : ab_ia ad (bl_G ++ [9]) (fun q => (lw_s C).heap.size ≤ q) := h3
  have p1 := (pre_W (G1 := bl_G) h2' rfl).1
  have hA1 : ∀ q, ab_rg bl_G ad H.size q → (fun q => (lw_s C).heap.size ≤ q) q := by
    rintro q (⟨o1, f1, hs, rfl⟩ | hq)
    · exact h3'.2 _ _ (pre_sl1 hs).1
    · exact Nat.le_trans h4.1 hq
  have i1 : ab_ia ad bl_G (fun _ => True) := ⟨fun a1 b1 a2 b2 s1 s2 he => h3'.1 _ _ _ _ (pre_sl1 s1).1 (pre_sl1 s2).1 he, fun _ _ _ => trivial⟩
  have hfix : CallFix C.1.1 C.1.2.2.2.2.1 C.2.1.2.2 code 7 (lw_s C) #[Value.ref (lw_b C)] ab_gw "HeadTreesLaw" := ⟨X.ex, X.cd, X.ml, X.own, X.ts⟩
  have hGd : GoodIn ab_gw (va_wsS "HeadTreesLaw" 198 yLB bl_ws) := by
    intro w hw
    have : w ∈ ab_gw := by
      unfold va_wsS bl_ws at hw
      rcases List.mem_append.mp hw with hw | hw
      · simp only [List.mem_cons, List.not_mem_nil, or_false] at hw
        rcases hw with rfl | rfl | rfl
        · exact ab_lk_in (p := 1117) (by decide +kernel)
        · exact ab_lk_in (p := 1118) (by decide +kernel)
        · exact ab_lk_in (p := 98) (by decide +kernel)
      · rcases List.mem_cons.mp hw with rfl | hw
        · exact ab_lk_in (p := 1119) (by decide +kernel)
        · exact hw
    exact ⟨this, ab_gw_good this⟩
  have cw := vx_cwSW (R := room_1) (own := "HeadTreesLaw") (index := 198) (hh := [(0, 9, 12, 13)]) (rm := ab_rm 13 mc ms) (mc := mc) (ms := ms) 3 X.ts hGd rfl rfl rfl (by decide +kernel) ⟨Nat.le_of_ble_eq_true rfl, Nat.le_of_ble_eq_true rfl⟩
  have hrun := vx_runSX (As := [.ref (ad 0 0), .int (Int32.ofInt (sc xs (i + 1))), .ref (ad 16 0)]) (rest := []) (H := H) (locs := locs) (cells := kc) (slots := ks) (l := C.1.2.1) (e := C.1.2.2.1) (below := C.2.1.1) (meth := C.2.1.2.1) (g := F0 C.1.2.2.2.2.1 1664 ls [.ref (ad 16 0), .int (Int32.ofInt (sc xs (i + 1))), .ref (ad 0 0)]) hfix (hC C.1.2.1 C.2.2 ad H.size K.2.1 K.2.2.2 (lw_ok32 _)) cw ⟨fun a U g mk q => ⟨q.1, q.2.1, q.2.2.1, q.2.2.2.1, ab_K_blind q.2.2.2.2.1 rfl rfl, bx_K_blind q.2.2.2.2.2 rfl rfl⟩, fun U hU hWm => ⟨rfl, by rw [hU], by rw [hU]; exact p1, i1, ab_K_at X.K h4 hU hWm hA1, bx_K_at K.2.2.1 h4 hU hWm hA1⟩⟩ rfl rfl h5.1 rfl (lv_room (Nat.le_of_ble_eq_true rfl)) d_1664 ⟨by show kc + mc ≤ 601024; omega, by show ks + ms ≤ 7293034; omega⟩
  intro T hT XX
  rcases hrun T hT XX with ⟨v, st₀, t, T', Lc, g0, X', hL, e1, e2, ⟨⟨rv, w17, ad1, ev, ⟨w16, o', ew, hbq, hres⟩, okv, W1, rel1, ia1⟩, hz, hkp⟩, stp⟩ | ⟨q, st₀, t, T', Lc, En, ce, g0, X', hL, e1, e2, hF, _⟩
  · subst ew
    obtain ⟨x', sp', wh', rfl, hF', hx', b1, b2⟩ := hbq
    rw [g0] at hz hkp
    obtain ⟨W2, I2⟩ := pre_after (G1 := bl_G) (G2 := [9]) h2' rfl h3' hA1 (by decide) W1 ia1 hkp
    obtain ⟨ad2, had2⟩ : ∃ ad2 : Nat → Nat → Nat, ad2 = ab_app ad1 bl_G.length (fun o f => ad (o + bl_G.length) f) := ⟨_, rfl⟩
    have ha0 : ∀ o1, ad2 o1 0 = ad o1 0 := fun o1 => by
      rw [had2]
      show (if o1 < bl_G.length then ad1 o1 0 else ad (o1 - bl_G.length + bl_G.length) 0) = _
      by_cases hlt : o1 < bl_G.length
      · rw [if_pos hlt]; exact rel1.1 o1
      · rw [if_neg hlt, Nat.sub_add_cancel (by omega)]
    have hS2 : va_S (fun q => (lw_s C).heap.size ≤ q) (lw_s C).heap T'.heap (locs ++ Lc) := ⟨by rw [e1]; exact Nat.le_trans h4.1 hz, fun q a1 a2 => by rw [e1, hkp q (Nat.lt_of_lt_of_le a1 h4.1) (fun z => a2 (hA1 q z))]; exact h4.2.1 q a1 a2, fun q hq => by
      rcases List.mem_append.mp hq with hq | hq
      · exact h4.2.2 q hq
      · exact hA1 _ (hL q hq)⟩
    have X2 := K.1.2.1 ad2
    have go : ∀ z : Int, rv = some (ab_I z) → (∀ r : Int, ∀ w9 : List ab_Ob, ((∃ k : Nat, ba_at b (sc xs (i + 1)) k ∧ some (ab_I r) = some (ab_I k) ∧ w9 = [ab_pf m 0 0]) ∨ ((∀ k : Nat, ¬ ba_at b (sc xs (i + 1)) k) ∧ some (ab_I r) = some (ab_I 0) ∧ w9 = [ab_pf m 0 1])) → w9 = [ab_pf m 0 z] ∧ (z = 0 → o'.1 0 = r)) → ab_J (lw_x C ad2) 1667 (lw_lv i) [ab_I z] [x', rd, dr, b, ac, sp', cn, wh', sw, swc, swt, kp, t1, t2, ly, wi, o', m] (kc + mc) (ks + ms) := by
      intro z erv hres2
      refine ab_r_istore X2 (i := 5) (show (5 : Nat) < 7 by decide) d_1667 ?_
      refine ab_r_aload_n X2 (i := 2) d_1669 ?_
      refine lw_a5 K.1 (z := z) (v := none) hi (j := 1) (by decide) (by decide +kernel) ?_
      show ab_J (lw_x C ad2) 1676 (lw_l5 i z none) ((ab_O 17 :: [ab_I (sc xs (i + 1))]).reverse ++ []) [x', rd, dr, b, ac, sp', cn, wh', sw, swc, swt, kp, t1, t2, ly, wi, o', m] (kc + mc) (ks + ms)
      refine lw_inv X2 (M := mX9_bare) (pl := [17]) (G' := [9]) (ws' := [m]) (as' := [ab_O 0, ab_I (sc xs (i + 1))]) (c9_bare 11 h.2.2.2.2.1 (sc xs (i + 1))) (show .methodLink "HeadTreesLaw" 203 (ab_nm mX9_bare) ∈ ab_gw from ab_lk_in (p := 1772) (by decide +kernel)) rfl rfl d_1676 rfl (by decide) rfl rfl rfl (by decide) rfl (by decide) (Nat.le_of_ble_eq_true rfl) (fun _ => ⟨rfl, rfl, rfl⟩) ⟨by show kc + mc + 0 ≤ 601024; omega, by show ks + ms + 0 ≤ 7293034; omega⟩ (fun rv9 ws'' hq => ?_)
      obtain ⟨⟨hs1', _⟩, hq⟩ := hq
      obtain ⟨r, rfl⟩ := hs1'
      obtain ⟨ew, ho⟩ := hres2 r ws'' hq
      subst ew
      refine ⟨[ab_I r], rfl, ?_⟩
      exact lw_43t K (hd_pf_eq m 0 z) ho ⟨by omega, by omega⟩ (kN ad2 o' _ _ _ _ _ _ _ _ _ _ _ _ _ _ _ _ _ _ _ (hR_bare h hF' hx' z) (by unfold hk at hk1 ⊢; omega) (by unfold hs at hs1 ⊢; omega))
    have fin : ∀ z : Int, rv = some (ab_I z) → ab_J (lw_x C ad2) 1667 (lw_lv i) [ab_I z] [x', rd, dr, b, ac, sp', cn, wh', sw, swc, swt, kp, t1, t2, ly, wi, o', m] (kc + mc) (ks + ms) → ∃ t, Steps C.1.1.tables C.1.2.2.1 C.2.1.1 (T.setTop (F0 C.1.2.2.2.2.1 1664 ls [.ref (ad 16 0), .int (Int32.ofInt (sc xs (i + 1))), .ref (ad 0 0)])) t ∧ lw_Z C.2.1.1 #[Value.ref (lw_b C)] (lw_s C) t := by
      intro z erv kk
      subst erv
      cases ev
      have k2 := kk ad2 T'.heap (locs ++ Lc) ls ⟨fun _ => rfl, fun _ _ _ => rfl⟩ (by rw [e1, had2]; exact W2) (by rw [had2]; exact I2) hS2 (ab_lc_na ha0 rfl h5) (fun v hv => by
        simp only [List.mem_cons, List.not_mem_nil, or_false] at hv
        subst hv
        exact okv _ rfl) h7 h8 ⟨by show kc + mc ≤ 601024; omega, by show ks + ms ≤ 7293034; omega⟩
      obtain ⟨tt, a1, b1⟩ := k2 T' rfl X'
      exact ⟨tt, stp tt a1, b1⟩
    rcases hres with ⟨k, hk, erv, ho⟩ | ⟨hno, erv⟩
    · refine fin 0 erv (go 0 erv (fun r w9 hq => ?_))
      rcases hq with ⟨k', hk', er, ew⟩ | ⟨hno, _⟩
      · cases er
        exact ⟨ew, fun _ => by rw [ho, ba_uni hk hk']⟩
      · exact absurd hk (hno k)
    · refine fin 1 erv (go 1 erv (fun r w9 hq => ?_))
      rcases hq with ⟨k', hk', er, ew⟩ | ⟨_, _, ew⟩
      · exact absurd hk' (hno k')
      · exact ⟨ew, fun g => absurd g (by decide)⟩
  · exact hF.elim
