/-! THE LAW, from its entry -/
theorem ab_ia_dis {ad ad2 : Nat → Nat → Nat} {G G2 : List Nat} {A : Nat → Prop} (h1 : ab_ia ad G A) (h2 : ab_ia ad2 G2 A) (hd : ∀ o f o' f', ab_sl G o f → ab_sl G2 o' f' → ad o f ≠ ad2 o' f') : ab_ia (ab_app ad G.length ad2) (G ++ G2) A := by
  have e1 : ∀ o f, o < G.length → ab_app ad G.length ad2 o f = ad o f := fun o f h => if_pos h
  have e2 : ∀ o f, G.length ≤ o → ab_app ad G.length ad2 o f = ad2 (o - G.length) f := fun o f h => if_neg (by omega)
  refine ⟨fun o f o' f' s1 s2 he => ?_, fun o f s1 => ?_⟩
  · rcases ab_sl_app s1 with ⟨l1, g1⟩ | ⟨l1, g1⟩
    · rcases ab_sl_app s2 with ⟨l2, g2⟩ | ⟨l2, g2⟩
      · rw [e1 _ _ l1, e1 _ _ l2] at he
        exact h1.1 _ _ _ _ g1 g2 he
      · rw [e1 _ _ l1, e2 _ _ l2] at he
        exact absurd he (hd _ _ _ _ g1 g2)
    · rcases ab_sl_app s2 with ⟨l2, g2⟩ | ⟨l2, g2⟩
      · rw [e2 _ _ l1, e1 _ _ l2] at he
        exact absurd he.symm (hd _ _ _ _ g2 g1)
      · rw [e2 _ _ l1, e2 _ _ l2] at he
        obtain ⟨a, b⟩ := h2.1 _ _ _ _ g1 g2 he
        exact ⟨by omega, b⟩
  · rcases ab_sl_app s1 with ⟨l1, g1⟩ | ⟨l1, g1⟩
    · rw [e1 _ _ l1]
      exact h1.2 _ _ g1
    · rw [e2 _ _ l1]
      exact h2.2 _ _ g1
theorem d_0 : decode code 0 = .ok (.new 8, 3) := by decide +kernel
theorem d_3 : decode code 3 = .ok (.dup, 1) := by decide +kernel
theorem d_4 : decode code 4 = .ok (.invokespecial 15, 3) := by decide +kernel
theorem d_7 : decode code 7 = .ok (.astore_n 1, 1) := by decide +kernel
theorem d_8 : decode code 8 = .ok (.new 16, 3) := by decide +kernel
theorem d_11 : decode code 11 = .ok (.dup, 1) := by decide +kernel
theorem d_12 : decode code 12 = .ok (.invokespecial 18, 3) := by decide +kernel
theorem d_15 : decode code 15 = .ok (.astore_n 2, 1) := by decide +kernel
theorem d_16 : decode code 16 = .ok (.iconst 1, 1) := by decide +kernel
theorem d_17 : decode code 17 = .ok (.newarray .long, 2) := by decide +kernel
theorem d_19 : decode code 19 = .ok (.astore_n 3, 1) := by decide +kernel
theorem d_20 : decode code 20 = .ok (.iconst 0, 1) := by decide +kernel
theorem d_21 : decode code 21 = .ok (.istore 4, 2) := by decide +kernel
def i_o : ab_Ob := (fun _ => 0, fun _ => (0, fun _ => 0))
theorem le_kd10 (f : Nat) : ab_kd 10 f = 2 ∨ ab_kd 10 f = 0 := by
  match f with
  | 0 => exact Or.inl rfl
  | f + 1 => exact Or.inr rfl
theorem le_k10 (f : Nat) : ¬ ab_arr (ab_kd 10 f) := by
  intro h
  have h1 := h.1
  rcases le_kd10 f with e | e <;> omega
theorem le_o10 (f : Nat) (_ : ab_kd 10 f ≤ 2) : ab_okk (ab_kd 10 f) 0 := by
  rcases le_kd10 f with e | e <;> rw [e]
  · exact ⟨by decide, by decide⟩
  · exact ⟨by decide, by decide⟩
set_option maxRecDepth 100000 in
set_option maxHeartbeats 4000000 in
theorem whole_start {p : Program} {e : Env} {s : State} {m : MethodId} {below : List Frame} {meth : Method} {c : Code} (l : Launch) (hflags : l.flags = flags0) {b L : Nat} {xs : Nat → Int32} (hL : L ≤ 3072) (C0 : lw_At p s m meth c b L xs) : W p l e room_1 s m #[Value.ref b] below meth c s.heap [] 0 0 (lw_Z below #[Value.ref b] s) (entryFrame m ([Value.ref b] : List Value).toArray 7) := by
  obtain ⟨hx, hb, hr, hml, hown, hts, hX, hbl, hlocks, hgv⟩ := C0
  obtain ⟨E, hK, hE, h12⟩ := le_K hts hgv
  have hbK := le_bx hts hgv
  have hN := le_N hts
  have htr : l.stackTraces = false := by
    unfold Launch.stackTraces
    rw [hflags]
    decide
  have XX : ∀ ad0, ab_X (lw_x ((p, l, e, s, m, b), (below, meth, c), E) ad0) := fun ad0 => ⟨hx, hb, hml, hown, fun w hw => hts w (List.mem_filter.mp hw).1, hr, hlocks, hK, fun q hq => hq, rfl⟩
  have K : lw_ok2 ((p, l, e, s, m, b), (below, meth, c), E) L xs := ⟨⟨hL, XX, h12, hX, hbl⟩, hE, hbK, htr⟩
  have X := XX (fun _ _ => 0)
  have hl := lv_entry ([.ref b]) (n := 7) (Nat.le_of_ble_eq_true rfl)
  rw [lg_entry_eq]
  generalize (lg_sl ([.ref b]) ++ List.replicate (7 - (lg_sl ([.ref b])).length) Slot.unset).toArray = ls at hl ⊢
  have hl : lv_has ls 7 [(0, .ref b)] := hl
  show ab_Wx (lw_x ((p, l, e, s, m, b), (below, meth, c), E) (fun _ _ => 0)) s.heap [] 0 0 (F0 m 0 ls [])
  refine ci_new X (M := mX8_init) (ci2 := 8) (i1 := 8) (i2 := 15) (n := 17) (n_8 10) (by decide) (show .classLink "HeadTreesLaw" 8 (ab_C 8) ∈ ab_gw from ab_lk_in (p := 118) (by decide +kernel)) (ab_lk_in (p := 119) (by decide +kernel)) (ab_lk_in (p := 99) (by decide +kernel)) (Or.inl (show .methodLink "HeadTreesLaw" 15 (ab_nm mX8_init) ∈ ab_gw from ab_lk_in (p := 120) (by decide +kernel))) hN d_0 d_3 d_4 va_S.rf hl.1 (Nat.le_of_ble_eq_true rfl) ⟨Nat.le_of_ble_eq_true rfl, Nat.le_of_ble_eq_true rfl⟩ (fun ad8 H8 locs8 q1 q2 q3 q4 q5 q6 => ?_)
  refine lv_astore_n (lv' := [(1, .ref s.heap.size), (0, .ref b)]) X.ex X.cd d_7 rfl hl (by decide) rfl (fun ls hl => ?_)
  show ab_Wx (lw_x ((p, l, e, s, m, b), (below, meth, c), E) (fun _ _ => 0)) H8 locs8 (0 + 1 + 83) (0 + 17 + 2181) (F0 m 8 ls [])
  refine ci_new X (M := mX9_init) (ci2 := 9) (i1 := 16) (i2 := 18) (n := 52) (n_9 12) (by decide) (show .classLink "HeadTreesLaw" 16 (ab_C 9) ∈ ab_gw from ab_lk_in (p := 1186) (by decide +kernel)) (ab_lk_in (p := 1187) (by decide +kernel)) (ab_lk_in (p := 108) (by decide +kernel)) (Or.inl (show .methodLink "HeadTreesLaw" 18 (ab_nm mX9_init) ∈ ab_gw from ab_lk_in (p := 1188) (by decide +kernel))) hN d_8 d_11 d_12 q6 hl.1 (Nat.le_of_ble_eq_true rfl) ⟨Nat.le_of_ble_eq_true rfl, Nat.le_of_ble_eq_true rfl⟩ (fun ad9 H9 locs9 r1 r2 r3 r4 r5 r6 => ?_)
  refine lv_astore_n (lv' := [(2, .ref H8.size), (1, .ref s.heap.size), (0, .ref b)]) X.ex X.cd d_15 rfl hl (by decide) rfl (fun ls hl => ?_)
  refine lv_iconst (v := 1) X.ex X.cd d_16 (by decide) ?_
  refine va_newaK X.ex X.cd (atype := .long) (X.ts _ (ab_lk_in (p := 284) (by decide +kernel))) rfl d_17 rfl (n := 1) (N := 1) (by decide) (by decide) (by decide) (Nat.le_of_ble_eq_true rfl) (Nat.le_of_ble_eq_true rfl) rfl fun H10 cA e1 z1 o1 hAr hNm => ?_
  have hcA : cA = E.2.1 5 := Option.some.inj (hNm.symm.trans ((ab_Karr hK.1 (k := 5) ⟨by decide, by decide⟩).2))
  refine lv_astore_n (lv' := [(3, .ref H9.size), (2, .ref H8.size), (1, .ref s.heap.size), (0, .ref b)]) X.ex X.cd d_19 rfl hl (by decide) rfl (fun ls hl => ?_)
  refine lv_iconst (v := 0) X.ex X.cd d_20 (by decide) ?_
  refine lv_istore (lv' := [(4, .int 0), (3, .ref H9.size), (2, .ref H8.size), (1, .ref s.heap.size), (0, .ref b)]) X.ex X.cd d_21 hl (by decide) rfl (fun ls hl => ?_)
  have hs8 : s.heap.size ≤ H8.size := q4
  have hs9 : H8.size ≤ H9.size := r4
  have W8 : ab_W E ad8 ab_g8 [i_x, i_rd, i_sc, i_sc, i_ac, i_ch, i_cn, i_tr, i_sw, i_ch, i_tr, i_tr, i_tr, i_tr, i_ly, i_ly] H10 := ab_W_kept q2 (fun o f hs => by
    have := ab_W_lt q2 hs
    rw [o1 _ (by omega)]
    exact r5 _ this)
  have W9 : ab_W E ad9 [9] [i_m] H10 := ab_W_kept r2 (fun o f hs => o1 _ (ab_W_lt r2 hs))
  have WO : ab_W E (fun _ _ => H9.size) [10] [i_o] H10 := by
    refine ⟨rfl, fun o ci ob g1 g2 => ?_⟩
    match o, g1, g2 with
    | 0, g1, g2 =>
      cases g1
      cases g2
      refine ⟨⟨_, e1, by rw [hE.1]; exact hcA, rfl, fun k hk => ?_⟩, fun f hf => ?_, fun f => ⟨fun _ h2 => ?_, fun hf => ?_⟩⟩
      · have hk : k < 1 := hk
        have : k = 0 := by omega
        subst this
        rw [hE.2]
        rfl
      · exact absurd hf (le_k10 f)
      · exact le_o10 f h2
      · exact absurd hf (le_k10 f)
    | o + 1, g1, g2 => simp [ab_at] at g1
  have I8 : ab_ia ad8 ab_g8 (fun q => s.heap.size ≤ q) := q3
  have IO : ab_ia (fun _ _ => H9.size) [10] (fun q => s.heap.size ≤ q) := by
    have key : ∀ o f, ab_sl [10] o f → o = 0 ∧ f = 0 := fun o f hs => by
      match f, hs with
      | 0, ⟨c, hc⟩ =>
        match o, hc with
        | 0, _ => exact ⟨rfl, rfl⟩
        | o + 1, hc => simp [ab_at] at hc
      | f + 1, ⟨c, hc, ha⟩ =>
        match o, hc with
        | 0, hc => cases hc; exact absurd ha (le_k10 f)
        | o + 1, hc => simp [ab_at] at hc
    refine ⟨fun o f o' f' s1 s2 _ => ?_, fun o f _ => by show s.heap.size ≤ H9.size; omega⟩
    have a1 := key _ _ s1
    have a2 := key _ _ s2
    omega
  have I9 : ab_ia ad9 [9] (fun q => s.heap.size ≤ q) := ⟨r3.1, fun o f hs => by have : H8.size ≤ ad9 o f := r3.2 o f hs; show s.heap.size ≤ _; omega⟩
  have lt8 : ∀ o f, ab_sl ab_g8 o f → ad8 o f < H8.size := fun o f hs => ab_W_lt q2 hs
  have lt9 : ∀ o f, ab_sl [9] o f → ad9 o f < H9.size := fun o f hs => ab_W_lt r2 hs
  have I80 := ab_ia_dis I8 IO (fun o f o' f' s1 _ => by have := lt8 o f s1; omega)
  have I89 := ab_ia_dis I80 I9 (fun o f o' f' s1 s2 => by
    have h9 : H8.size ≤ ad9 o' f' := r3.2 o' f' s2
    have h9' := lt9 o' f' s2
    rcases ab_sl_app s1 with ⟨l1, g1⟩ | ⟨l1, g1⟩
    · rw [show ab_app ad8 ab_g8.length (fun _ _ => H9.size) o f = ad8 o f from if_pos l1]
      have := lt8 o f g1
      omega
    · rw [show ab_app ad8 ab_g8.length (fun _ _ => H9.size) o f = H9.size from if_neg (by omega)]
      omega)
  have W80 := ab_W_app W8 WO (by decide)
  have W89 := ab_W_app W80 W9 (by decide)
  have hS : va_S (fun q => s.heap.size ≤ q) s.heap H10 locs9 := ⟨by omega, fun q a1 a2 => by rw [o1 q (by omega), r5 q (by omega)]; exact q5 q a1, r6.2.2⟩
  obtain ⟨adT, hadT⟩ : ∃ adT : Nat → Nat → Nat, adT = ab_app (ab_app ad8 ab_g8.length (fun _ _ => H9.size)) (ab_g8 ++ [10]).length ad9 := ⟨_, rfl⟩
  have J := lw_loop K 512 0 123 84803 (by decide) (by omega) (by omega) (by decide) (by decide) adT i_o i_x i_rd i_sc i_sc i_ac i_ch i_cn i_tr i_sw i_ch i_tr i_tr i_tr i_tr i_ly i_ly i_m (0 + 1 + 83 + 1 + 28 + 1) (0 + 17 + 2181 + 52 + 57400 + 1) hR_i (by rw [hk_i]; decide) (by rw [hs_i]; decide)
  refine J adT H10 locs9 ls ⟨fun _ => rfl, fun _ _ _ => rfl⟩ (by rw [hadT]; exact W89) (by rw [hadT]; exact I89) hS ?_ (fun v hv => by cases hv) (fun v hv => ?_) rfl ⟨Nat.le_of_ble_eq_true rfl, Nat.le_of_ble_eq_true rfl⟩
  · have e0 : adT 0 0 = s.heap.size := by rw [hadT]; exact q1
    have e16 : adT 16 0 = H9.size := by rw [hadT]; rfl
    have e17 : adT 17 0 = H8.size := by rw [hadT]; exact r1
    show lv_has ls 7 [(0, .ref (E.2.2.1 12)), (1, .ref (adT 0 0)), (2, .ref (adT 17 0)), (3, .ref (adT 16 0)), (4, .int (Int32.ofInt 0))]
    rw [e0, e16, e17, h12]
    exact lv_sub hl [4, 3, 2, 1, 0] rfl
  · simp only [List.mem_cons, List.not_mem_nil, or_false, Option.some.injEq, reduceCtorEq] at hv
    rcases hv with rfl | rfl | rfl | rfl | rfl
    · trivial
    · trivial
    · trivial
    · trivial
    · exact ⟨by decide, by decide⟩
