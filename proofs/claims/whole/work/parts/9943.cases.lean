/-! THE LAW: piece and bare -/
theorem d_313 : decode code 313 = .ok (.aload_n 1, 1) := by decide +kernel
theorem d_320 : decode code 320 = .ok (.invokevirtual 24, 3) := by decide +kernel
theorem d_323 : decode code 323 = .ok (.aload_n 2, 1) := by decide +kernel
theorem d_330 : decode code 330 = .ok (.invokevirtual 27, 3) := by decide +kernel
theorem d_333 : decode code 333 = .ok (.if_icmp .eq 1417, 3) := by decide +kernel
/-- the rest of the law's addresses behind a call -/
theorem lw_c1 {C : lw_C} {L : Nat} {xs : Nat → Int32} (K : lw_ok C L xs) {i : Int} (hi : 0 ≤ i ∧ i + 6 ≤ L) {A B : Nat} (hA : A ≤ 601024) (hB' : B ≤ 7293034) {o : ab_Ob} (kN : ∀ ad0, lw_N C ad0 1750 i o A B) {ad0 : Nat → Nat → Nat} : lw_N C ad0 313 i o A B := by
  intro x rd dr b ac sp cn wh sw swc swt kp t1 t2 ly wi m kc ks h hk1 hs1
  have X := K.2.1 ad0
  obtain ⟨Q8, c8, q8⟩ := s_piece 1 h (sc xs (i + 1))
  refine ab_r_aload_n X (i := 1) d_313 ?_
  refine lw_a1 K hi (j := 1) (by decide) (by decide +kernel) ?_
  show ab_J (lw_x C ad0) 320 (lw_lv i) [ab_I (sc xs (i + 1)), ab_O 0] [x, rd, dr, b, ac, sp, cn, wh, sw, swc, swt, kp, t1, t2, ly, wi, o, m] kc ks
  intro ad H locs ls h1 h2 h3 h4 h5 h6 h7 h8 h9
  have h2' : ab_W C.2.2 ad (ab_g8 ++ [10, 9]) ([x, rd, dr, b, ac, sp, cn, wh, sw, swc, swt, kp, t1, t2, ly, wi] ++ [o, m]) H := h2
  have h3' : ab_ia ad (ab_g8 ++ [10, 9]) (fun q => (lw_s C).heap.size ≤ q) := h3
  have p1 := (pre_W (G1 := ab_g8) h2' rfl).1
  have hA1 : ∀ q, ab_rg ab_g8 ad H.size q → (fun q => (lw_s C).heap.size ≤ q) q := by
    rintro q (⟨o1, f1, hs, rfl⟩ | hq)
    · exact h3'.2 _ _ (pre_sl1 hs).1
    · exact Nat.le_trans h4.1 hq
  have i1 : ab_ia ad ab_g8 (fun _ => True) := ⟨fun a1 b1 a2 b2 s1 s2 he => h3'.1 _ _ _ _ (pre_sl1 s1).1 (pre_sl1 s2).1 he, fun _ _ _ => trivial⟩
  have hm := c8.1
  have hm5 := hm.2.2.2.2
  rw [if_neg (show ¬ ab_st mX8_piece = true by decide)] at hm5
  have hlink : .methodLink "HeadTreesLaw" 24 (ab_nm mX8_piece) ∈ ab_gw := ab_lk_in (p := 449) (by decide +kernel)
  have hR : (ab_rm 13 0 0).frames + 1 ≤ (ab_cR (lw_x C ad0)).frames ∧ 8 + (ab_ml mX8_piece + 11) + (ab_rm 13 0 0).locals ≤ (ab_cR (lw_x C ad0)).locals := ⟨Nat.le_of_ble_eq_true rfl, Nat.le_of_ble_eq_true rfl⟩
  have cw := cwV (own := "HeadTreesLaw") (index := 24) (C := (ab_nm mX8_piece).cls) 1 X.ts (ab_good_all hm (ws0 := [.methodLink "HeadTreesLaw" 24 (ab_nm mX8_piece), .instanceMethod (ab_nm mX8_piece), .selects (ab_nm mX8_piece).cls (ab_nm mX8_piece) (ab_nm mX8_piece), .initialized (ab_nm mX8_piece).cls]) (fun w h => by
    simp only [List.mem_cons, List.not_mem_nil, or_false] at h
    rcases h with rfl | rfl | rfl | rfl
    · exact hlink
    · exact hm5.1
    · exact hm5.2.1
    · exact hm.2.1)) rfl rfl rfl ⟨rfl, hm.2.2.1⟩ hR
  have hrcv : ∃ cell : Cell, H[ad 0 0]? = some cell ∧ cell.vm.isStatics = false ∧ (lw_s C).vm.findClass (ab_nm mX8_piece).cls = some cell.cls := by
    obtain ⟨⟨cell, q1, q2, q3, q4⟩, _⟩ := p1.2 0 8 x rfl rfl
    exact ⟨cell, q1, by rw [q3]; rfl, by rw [q2]; exact (X.K.1.1 8 _ (ab_cls (by decide))).2.1⟩
  have hfix : CallFix C.1.1 C.1.2.2.2.2.1 C.2.1.2.2 code 7 (lw_s C) #[Value.ref (lw_b C)] ab_gw "HeadTreesLaw" := ⟨X.ex, X.cd, X.ml, X.own, X.ts⟩
  have hrun := va_runV (As := [.int (Int32.ofInt (sc xs (i + 1)))]) (b := ad 0 0) (rest := []) (H := H) (locs := locs) (cells := kc) (slots := ks) (l := C.1.2.1) (e := C.1.2.2.1) (below := C.2.1.1) (meth := C.2.1.2.1) (g := F0 C.1.2.2.2.2.1 320 ls [.int (Int32.ofInt (sc xs (i + 1))), .ref (ad 0 0)]) hfix (c8.2 C.1.2.1 C.2.2 ad H.size (fun v hv => by
    simp only [List.mem_cons, List.not_mem_nil, or_false] at hv
    rcases hv with rfl | rfl
    · trivial
    · exact lw_ok32 _)) cw ⟨fun a U g mk q => ⟨q.1, q.2.1, q.2.2.1, q.2.2.2.1, ab_K_blind q.2.2.2.2 rfl rfl⟩, hrcv, fun U hU hWm => ⟨rfl, by rw [hU], by rw [hU]; exact p1, i1, ab_K_at X.K h4 hU hWm hA1⟩⟩ rfl rfl h5.1 rfl (lv_room (Nat.le_of_ble_eq_true rfl)) d_320 ⟨by show kc + 0 ≤ 601024; omega, by show ks + 0 ≤ 7293034; omega⟩
  intro T hT XX
  obtain ⟨v, st₀, t, T', Lc, g0, X', hL, e1, e2, ⟨⟨rv, w16, ad1, ev, hq, okv, W1, r00, ia1⟩, hz, hkp⟩, stp⟩ := hrun T hT XX
  obtain ⟨r, erv, hlen, Q9, c9, q9⟩ := q8 rv w16 hq
  subst erv
  cases ev
  obtain ⟨y0, y1, y2, y3, y4, y5, y6, y7, y8, y9, y10, y11, y12, y13, y14, y15, rfl⟩ := lw_l16 hlen
  rw [g0] at hz hkp
  obtain ⟨W2, I2⟩ := pre_after (G1 := ab_g8) (G2 := [10, 9]) h2' rfl h3' hA1 (by decide) W1 ia1 hkp
  obtain ⟨ad2, had2⟩ : ∃ ad2 : Nat → Nat → Nat, ad2 = ab_app ad1 ab_g8.length (fun o f => ad (o + ab_g8.length) f) := ⟨_, rfl⟩
  have hS2 : va_S (fun q => (lw_s C).heap.size ≤ q) (lw_s C).heap T'.heap (locs ++ Lc) := ⟨by rw [e1]; exact Nat.le_trans h4.1 hz, fun q a1 a2 => by rw [e1, hkp q (Nat.lt_of_lt_of_le a1 h4.1) (fun z => a2 (hA1 q z))]; exact h4.2.1 q a1 a2, fun q hq => by
    rcases List.mem_append.mp hq with hq | hq
    · exact h4.2.2 q hq
    · exact hA1 _ (hL q hq)⟩
  have hlv : lv_has ls 7 (ab_lc ad2 C.2.2.2.2.1 0 (lw_lv i)) := by
    have e0 : ad2 0 0 = ad 0 0 := by rw [had2]; exact r00
    have e16 : ad2 16 0 = ad 16 0 := by rw [had2]; rfl
    have e17 : ad2 17 0 = ad 17 0 := by rw [had2]; rfl
    show lv_has ls 7 [(0, .ref (C.2.2.2.2.1 12)), (1, .ref (ad2 0 0)), (2, .ref (ad2 17 0)), (3, .ref (ad2 16 0)), (4, .int (Int32.ofInt i))]
    rw [e0, e16, e17]
    exact h5
  have kk : ab_J (lw_x C ad2) 323 (lw_lv i) [ab_I r] [y0, y1, y2, y3, y4, y5, y6, y7, y8, y9, y10, y11, y12, y13, y14, y15, o, m] kc ks := by
    have X2 := K.2.1 ad2
    refine ab_r_aload_n X2 (i := 2) d_323 ?_
    refine lw_a1 K hi (j := 1) (by decide) (by decide +kernel) ?_
    show ab_J (lw_x C ad2) 330 (lw_lv i) ((ab_O 17 :: [ab_I (sc xs (i + 1))]).reverse ++ [ab_I r]) [y0, y1, y2, y3, y4, y5, y6, y7, y8, y9, y10, y11, y12, y13, y14, y15, o, m] kc ks
    refine lw_inv X2 (M := mX9_piece) (pl := [17]) (G' := [9]) (ws' := [m]) (as' := [ab_O 0, ab_I (sc xs (i + 1))]) c9 (show .methodLink "HeadTreesLaw" 27 (ab_nm mX9_piece) ∈ ab_gw from ab_lk_in (p := 1357) (by decide +kernel)) rfl rfl d_330 rfl (by decide) rfl rfl rfl (by decide) rfl (by decide) (Nat.le_of_ble_eq_true rfl) (fun _ => ⟨rfl, rfl, rfl⟩) ⟨by show kc + 0 ≤ 601024; omega, by show ks + 0 ≤ 7293034; omega⟩ (fun rv ws'' hq => ?_)
    obtain ⟨⟨hs1', hs2'⟩, hq⟩ := hq
    obtain ⟨r', rfl⟩ := hs1'
    obtain ⟨er, m', ew, z0, z1, z2, z3, z4, z5, z6, z7, z8, z9, z10, z11, z12, z13, z14, z15, ew2, hR', k1, k2⟩ := q9 r' _ hq
    subst er
    subst ew
    cases ew2
    refine ⟨[ab_I r', ab_I r'], rfl, ?_⟩
    refine ab_r_icmp X2 (cn := .eq) (t := 1750) (by decide) d_333 ⟨fun _ => ?_, fun g => absurd rfl g⟩
    exact kN ad2 _ _ _ _ _ _ _ _ _ _ _ _ _ _ _ _ _ _ _ hR' (by omega) (by omega)
  have k2 := kk ad2 T'.heap (locs ++ Lc) ls ⟨fun _ => rfl, fun _ _ _ => rfl⟩ (by rw [e1, had2]; exact W2) (by rw [had2]; exact I2) hS2 hlv (fun v hv => by
    simp only [List.mem_cons, List.not_mem_nil, or_false] at hv
    subst hv
    exact okv _ rfl) h7 h8 h9
  obtain ⟨tt, a1, b1⟩ := k2 T' rfl X'
  exact ⟨tt, stp tt a1, b1⟩
