/-! String.length, String.charAt: the JDK's own methods, walked -/
theorem dJ0_length_8abf5_0 : decode cJ0_length_8abf5 0 = .ok (.aload_n 0, 1) := by decide +kernel
theorem dJ0_length_8abf5_1 : decode cJ0_length_8abf5 1 = .ok (.getfield 9, 3) := by decide +kernel
theorem dJ0_length_8abf5_4 : decode cJ0_length_8abf5 4 = .ok (.arraylength, 1) := by decide +kernel
theorem dJ0_length_8abf5_5 : decode cJ0_length_8abf5 5 = .ok (.aload_n 0, 1) := by decide +kernel
theorem dJ0_length_8abf5_6 : decode cJ0_length_8abf5 6 = .ok (.invokevirtual 335, 3) := by decide +kernel
theorem dJ0_length_8abf5_9 : decode cJ0_length_8abf5 9 = .ok (.ishr, 1) := by decide +kernel
theorem dJ0_length_8abf5_10 : decode cJ0_length_8abf5 10 = .ok (.ireturn, 1) := by decide +kernel
theorem dJ0_charAt_5068e_0 : decode cJ0_charAt_5068e 0 = .ok (.aload_n 0, 1) := by decide +kernel
theorem dJ0_charAt_5068e_1 : decode cJ0_charAt_5068e 1 = .ok (.invokevirtual 492, 3) := by decide +kernel
theorem dJ0_charAt_5068e_4 : decode cJ0_charAt_5068e 4 = .ok (.ifCond .eq 12, 3) := by decide +kernel
theorem dJ0_charAt_5068e_7 : decode cJ0_charAt_5068e 7 = .ok (.aload_n 0, 1) := by decide +kernel
theorem dJ0_charAt_5068e_8 : decode cJ0_charAt_5068e 8 = .ok (.getfield 9, 3) := by decide +kernel
theorem dJ0_charAt_5068e_11 : decode cJ0_charAt_5068e 11 = .ok (.iload_n 1, 1) := by decide +kernel
theorem dJ0_charAt_5068e_12 : decode cJ0_charAt_5068e 12 = .ok (.invokestatic 495, 3) := by decide +kernel
theorem dJ0_charAt_5068e_15 : decode cJ0_charAt_5068e 15 = .ok (.ireturn, 1) := by decide +kernel
theorem dJ0_charAt_5068e_16 : decode cJ0_charAt_5068e 16 = .ok (.aload_n 0, 1) := by decide +kernel
theorem dJ0_charAt_5068e_17 : decode cJ0_charAt_5068e 17 = .ok (.getfield 9, 3) := by decide +kernel
theorem dJ0_charAt_5068e_20 : decode cJ0_charAt_5068e 20 = .ok (.iload_n 1, 1) := by decide +kernel
theorem dJ0_charAt_5068e_21 : decode cJ0_charAt_5068e 21 = .ok (.invokestatic 498, 3) := by decide +kernel
theorem dJ0_charAt_5068e_24 : decode cJ0_charAt_5068e 24 = .ok (.ireturn, 1) := by decide +kernel
theorem dJ0_coder_7d493_0 : decode cJ0_coder_7d493 0 = .ok (.getstatic 38, 3) := by decide +kernel
theorem dJ0_coder_7d493_3 : decode cJ0_coder_7d493 3 = .ok (.ifCond .eq 10, 3) := by decide +kernel
theorem dJ0_coder_7d493_6 : decode cJ0_coder_7d493 6 = .ok (.aload_n 0, 1) := by decide +kernel
theorem dJ0_coder_7d493_7 : decode cJ0_coder_7d493 7 = .ok (.getfield 15, 3) := by decide +kernel
theorem dJ0_coder_7d493_10 : decode cJ0_coder_7d493 10 = .ok (.goto 4, 3) := by decide +kernel
theorem dJ0_coder_7d493_13 : decode cJ0_coder_7d493 13 = .ok (.iconst 1, 1) := by decide +kernel
theorem dJ0_coder_7d493_14 : decode cJ0_coder_7d493 14 = .ok (.ireturn, 1) := by decide +kernel
theorem dJ0_isLatin1_aae02_0 : decode cJ0_isLatin1_aae02 0 = .ok (.getstatic 38, 3) := by decide +kernel
theorem dJ0_isLatin1_aae02_3 : decode cJ0_isLatin1_aae02 3 = .ok (.ifCond .eq 14, 3) := by decide +kernel
theorem dJ0_isLatin1_aae02_6 : decode cJ0_isLatin1_aae02 6 = .ok (.aload_n 0, 1) := by decide +kernel
theorem dJ0_isLatin1_aae02_7 : decode cJ0_isLatin1_aae02 7 = .ok (.getfield 15, 3) := by decide +kernel
theorem dJ0_isLatin1_aae02_10 : decode cJ0_isLatin1_aae02 10 = .ok (.ifCond .ne 7, 3) := by decide +kernel
theorem dJ0_isLatin1_aae02_13 : decode cJ0_isLatin1_aae02 13 = .ok (.iconst 1, 1) := by decide +kernel
theorem dJ0_isLatin1_aae02_14 : decode cJ0_isLatin1_aae02 14 = .ok (.goto 4, 3) := by decide +kernel
theorem dJ0_isLatin1_aae02_17 : decode cJ0_isLatin1_aae02 17 = .ok (.iconst 0, 1) := by decide +kernel
theorem dJ0_isLatin1_aae02_18 : decode cJ0_isLatin1_aae02 18 = .ok (.ireturn, 1) := by decide +kernel
theorem dJ0_checkIndex_df160_0 : decode cJ0_checkIndex_df160 0 = .ok (.iload_n 0, 1) := by decide +kernel
theorem dJ0_checkIndex_df160_1 : decode cJ0_checkIndex_df160 1 = .ok (.iload_n 1, 1) := by decide +kernel
theorem dJ0_checkIndex_df160_2 : decode cJ0_checkIndex_df160 2 = .ok (.getstatic 1053, 3) := by decide +kernel
theorem dJ0_checkIndex_df160_5 : decode cJ0_checkIndex_df160 5 = .ok (.invokestatic 1059, 3) := by decide +kernel
theorem dJ0_checkIndex_df160_8 : decode cJ0_checkIndex_df160 8 = .ok (.pop, 1) := by decide +kernel
theorem dJ0_checkIndex_df160_9 : decode cJ0_checkIndex_df160 9 = .ok (.return_, 1) := by decide +kernel
theorem dJ1_charAt_3b067_0 : decode cJ1_charAt_3b067 0 = .ok (.iload_n 1, 1) := by decide +kernel
theorem dJ1_charAt_3b067_1 : decode cJ1_charAt_3b067 1 = .ok (.aload_n 0, 1) := by decide +kernel
theorem dJ1_charAt_3b067_2 : decode cJ1_charAt_3b067 2 = .ok (.arraylength, 1) := by decide +kernel
theorem dJ1_charAt_3b067_3 : decode cJ1_charAt_3b067 3 = .ok (.invokestatic 9, 3) := by decide +kernel
theorem dJ1_charAt_3b067_6 : decode cJ1_charAt_3b067 6 = .ok (.aload_n 0, 1) := by decide +kernel
theorem dJ1_charAt_3b067_7 : decode cJ1_charAt_3b067 7 = .ok (.iload_n 1, 1) := by decide +kernel
theorem dJ1_charAt_3b067_8 : decode cJ1_charAt_3b067 8 = .ok (.baload, 1) := by decide +kernel
theorem dJ1_charAt_3b067_9 : decode cJ1_charAt_3b067 9 = .ok (.sipush 255, 3) := by decide +kernel
theorem dJ1_charAt_3b067_12 : decode cJ1_charAt_3b067 12 = .ok (.iand, 1) := by decide +kernel
theorem dJ1_charAt_3b067_13 : decode cJ1_charAt_3b067 13 = .ok (.i2c, 1) := by decide +kernel
theorem dJ1_charAt_3b067_14 : decode cJ1_charAt_3b067 14 = .ok (.ireturn, 1) := by decide +kernel
theorem dJ3_checkIndex_8e157_0 : decode cJ3_checkIndex_8e157 0 = .ok (.iload_n 0, 1) := by decide +kernel
theorem dJ3_checkIndex_8e157_1 : decode cJ3_checkIndex_8e157 1 = .ok (.ifCond .lt 8, 3) := by decide +kernel
theorem dJ3_checkIndex_8e157_4 : decode cJ3_checkIndex_8e157 4 = .ok (.iload_n 0, 1) := by decide +kernel
theorem dJ3_checkIndex_8e157_5 : decode cJ3_checkIndex_8e157 5 = .ok (.iload_n 1, 1) := by decide +kernel
theorem dJ3_checkIndex_8e157_6 : decode cJ3_checkIndex_8e157 6 = .ok (.if_icmp .lt 10, 3) := by decide +kernel
theorem dJ3_checkIndex_8e157_9 : decode cJ3_checkIndex_8e157 9 = .ok (.aload_n 2, 1) := by decide +kernel
theorem dJ3_checkIndex_8e157_10 : decode cJ3_checkIndex_8e157 10 = .ok (.iload_n 0, 1) := by decide +kernel
theorem dJ3_checkIndex_8e157_11 : decode cJ3_checkIndex_8e157 11 = .ok (.iload_n 1, 1) := by decide +kernel
theorem dJ3_checkIndex_8e157_12 : decode cJ3_checkIndex_8e157 12 = .ok (.invokestatic 95, 3) := by decide +kernel
theorem dJ3_checkIndex_8e157_15 : decode cJ3_checkIndex_8e157 15 = .ok (.athrow, 1) := by decide +kernel
theorem dJ3_checkIndex_8e157_16 : decode cJ3_checkIndex_8e157 16 = .ok (.iload_n 0, 1) := by decide +kernel
theorem dJ3_checkIndex_8e157_17 : decode cJ3_checkIndex_8e157 17 = .ok (.ireturn, 1) := by decide +kernel
def mJ_coder : ab_M := ((yJ0_coder_7d493, cJ0_coder_7d493, 1, (some .byte)), ([], [], [], false, false, 0), (false, 100, 0))
def mJ_isLatin1 : ab_M := ((yJ0_isLatin1_aae02, cJ0_isLatin1_aae02, 1, (some .boolean)), ([], [], [], false, false, 0), (false, 100, 0))
def mJ_checkIndex : ab_M := ((yJ0_checkIndex_df160, cJ0_checkIndex_df160, 2, none), ([], [], [], false, false, 0), (true, 100, 2))
def mJ_l1charAt : ab_M := ((yJ1_charAt_3b067, cJ1_charAt_3b067, 2, (some .char)), ([], [], [], false, false, 0), (true, 100, 2))
def mJ_pcheck : ab_M := ((yJ3_checkIndex_8e157, cJ3_checkIndex_8e157, 3, (some .int)), ([], [], [], false, false, 0), (true, 100, 3))
theorem kJ_coder : ab_mok mJ_coder ∧ plainName (ab_nm mJ_coder).cls = true := ab_mok_of 500 110 498 499 (by decide +kernel)
theorem kJ_isLatin1 : ab_mok mJ_isLatin1 ∧ plainName (ab_nm mJ_isLatin1).cls = true := ab_mok_of 510 110 508 509 (by decide +kernel)
theorem kJ_checkIndex : ab_mok mJ_checkIndex ∧ plainName (ab_nm mJ_checkIndex).cls = true := ab_mok_of 516 110 515 0 (by decide +kernel)
theorem kJ_l1charAt : ab_mok mJ_l1charAt ∧ plainName (ab_nm mJ_l1charAt).cls = true := ab_mok_of 513 111 512 0 (by decide +kernel)
theorem kJ_pcheck : ab_mok mJ_pcheck ∧ plainName (ab_nm mJ_pcheck).cls = true := ab_mok_of 521 112 520 0 (by decide +kernel)
theorem kJ_length : ab_mok mJ_length ∧ plainName (ab_nm mJ_length).cls = true := ab_mok_of 496 110 494 495 (by decide +kernel)
theorem kJ_charAt : ab_mok mJ_charAt ∧ plainName (ab_nm mJ_charAt).cls = true := ab_mok_of 506 110 504 505 (by decide +kernel)
/-- the start of such a method -/
def jk_P (E : ab_E) (sz : Nat) (as : List Value) : Array Value → State → Prop := va_Pc as (fun U => U.heap.size = sz ∧ ab_K E (fun q => sz ≤ q) U U.heap)
theorem jk_K {E : ab_E} {A B : Nat → Prop} {U : State} {H : Heap} (h : ab_K E A U H) (hB : ∀ q, B q → A q) : ab_K E B U H := by
  obtain ⟨k1, k2, k3, k4, k5⟩ := h
  exact ⟨k1, k2.narrow hB, k3, k4.narrow hB, k5.narrow hB⟩
/-- the start of a call of one such method by another -/
theorem jk_pre {E : ab_E} {s : State} {as : List Value} (hK : ab_K E (fun q => s.heap.size ≤ q) s s.heap) : PreS s s.heap (jk_P E s.heap.size as) as :=
  ⟨fun a U g mk q => ⟨q.1, q.2.1, ab_K_blind q.2.2 rfl rfl⟩, fun U hU hWm => ⟨rfl, by rw [hU], ab_K_at hK va_S.rf hU hWm (fun _ h => h)⟩⟩
theorem jk_R {d : Nat} {M : ab_M} (h : ab_ml M ≤ 18) : (ab_rm d 0 0).frames + 1 ≤ (ab_rm (d + 1) 0 0).frames ∧ 8 + (ab_ml M + 11) + (ab_rm d 0 0).locals ≤ (ab_rm (d + 1) 0 0).locals := by
  refine ⟨Nat.le_refl _, ?_⟩
  show 8 + (ab_ml M + 11) + 37 * d ≤ 37 * (d + 1)
  omega
theorem jk_V {d i : Nat} {M : ab_M} (hm : ab_mok M) (hst : ab_st M = false) {args : Array Value} {s : State} {own : String} (hts : ∀ w ∈ ab_gw, w.before args s = true) (hl : .methodLink own i (ab_nm M) ∈ ab_gw) : CallW (ab_rm (d + 1) 0 0) s args own (ab_nm M).cls i (ab_nm M) (ab_cd M) (ab_ml M) (ab_rt M) (ab_ws M) (ab_rm d 0 0) 0 0 (ab_na M) := by
  have h5 := hm.2.2.2.2
  rw [if_neg (by rw [hst]; decide)] at h5
  refine cwV (own := own) (index := i) (C := (ab_nm M).cls) (ab_na M) hts (ab_good_all hm (ws0 := [.methodLink own i (ab_nm M), .instanceMethod (ab_nm M), .selects (ab_nm M).cls (ab_nm M) (ab_nm M), .initialized (ab_nm M).cls]) (fun w h => ?_)) rfl rfl rfl ⟨rfl, hm.2.2.1⟩ (jk_R hm.2.2.2.1)
  simp only [List.mem_cons, List.not_mem_nil, or_false] at h
  rcases h with rfl | rfl | rfl | rfl
  · exact hl
  · exact h5.1
  · exact h5.2.1
  · exact hm.2.1
theorem jk_S {d i : Nat} {M : ab_M} (hm : ab_mok M) (hst : ab_st M = true) {args : Array Value} {s : State} {own : String} (hts : ∀ w ∈ ab_gw, w.before args s = true) (hl : .methodLink own i (ab_nm M) ∈ ab_gw) : CallB (ab_rm (d + 1) 0 0) s args own i (ab_nm M) (ab_cd M) (ab_ml M) (ab_rt M) (ab_ws M) (ab_rm d 0 0) 0 0 (ab_na M) ∧ (Cond.static (ab_nm M)).before args s = true := by
  have h5 := hm.2.2.2.2
  rw [if_pos hst] at h5
  exact ⟨callB_of (own := own) (index := i) (ab_na M) hts (fun w h => ⟨ab_ws_in hm w h, ab_gw_good (ab_ws_in hm w h)⟩) rfl rfl rfl (hts _ hm.2.1) (hts _ hl) hm.2.2.1 (jk_R hm.2.2.2.1), hts _ h5⟩
theorem j_coder (l : Launch) (E : ab_E) (sz d : Nat) {n : Nat} (hn : n < 12) : Met l (ab_nm mJ_coder) (ab_ws mJ_coder) (ab_rm (d + 1) 0 0) (jk_P E sz [.ref (E.2.2.1 n)]) (k2_QcV (.int 0)) 0 0 (fun _ => False) := by
  refine Met.ofW (cc := cJ0_coder_7d493) (maxL := 1) (ret := some .byte) (by decide) rfl ?_
  intro p e s m args below meth c s₁ B hml hv
  obtain ⟨rfl, hsz, hK⟩ := hv
  subst hsz
  have hx := B.exec
  have hb := B.bytes
  have hr := B.returns
  have hlocks := B.notSynchronized
  have hts0 := atoms_spec (ws := ab_ws mJ_coder) B.pre
  have hts : ∀ w ∈ ab_gw, w.before ([.ref (E.2.2.1 n)] : List Value).toArray s = true := fun w h => hts0 w (List.mem_cons_of_mem _ h)
  have hown : s.vm.findClass "java/lang/String" = some m.cls := findClass_of_methodNamed B.named
  have hS : va_S (fun q => s.heap.size ≤ q) s.heap s.heap [] := va_S.rf
  have hl := lv_entry ([.ref (E.2.2.1 n)]) (n := 1) (Nat.le_of_ble_eq_true rfl)
  rw [lg_entry_eq]
  generalize (lg_sl ([.ref (E.2.2.1 n)]) ++ List.replicate (1 - (lg_sl ([.ref (E.2.2.1 n)])).length) Slot.unset).toArray = ls at hl ⊢
  have hl : lv_has ls 1 [(0, .ref (E.2.2.1 n))] := hl
  refine va_gets hx hb hK.2.2.2.1 hS hown (hts _ (ab_lk_in (p := 501) (by decide +kernel))) (fun _ h => h) dJ0_coder_7d493_0 ?_
  refine lv_if_eq (tgt := 13) hx hb dJ0_coder_7d493_3 (by decide) (fun h => absurd h (by decide)) (fun _ => ?_)
  refine lv_aload_n hx hb dJ0_coder_7d493_6 rfl (lv_at hl 0 rfl) ?_
  refine vk_getf hx hb (hK.2.1.1 n hn).2.1 hS hown (hts _ (ab_lk_in (p := 1799) (by decide +kernel))) (fun _ h => h) dJ0_coder_7d493_7 ?_
  refine lv_goto (tgt := 14) hx hb dJ0_coder_7d493_10 (by decide) ?_
  exact W.zret hx hb hr (by decide) (fun t ht _ => ⟨rfl, ht⟩) (fun q hq => by cases hq) dJ0_coder_7d493_14 hlocks
theorem j_isLatin1 (l : Launch) (E : ab_E) (sz d : Nat) {n : Nat} (hn : n < 12) : Met l (ab_nm mJ_isLatin1) (ab_ws mJ_isLatin1) (ab_rm (d + 1) 0 0) (jk_P E sz [.ref (E.2.2.1 n)]) (k2_QcV (.int 1)) 0 0 (fun _ => False) := by
  refine Met.ofW (cc := cJ0_isLatin1_aae02) (maxL := 1) (ret := some .boolean) (by decide) rfl ?_
  intro p e s m args below meth c s₁ B hml hv
  obtain ⟨rfl, hsz, hK⟩ := hv
  subst hsz
  have hx := B.exec
  have hb := B.bytes
  have hr := B.returns
  have hlocks := B.notSynchronized
  have hts0 := atoms_spec (ws := ab_ws mJ_isLatin1) B.pre
  have hts : ∀ w ∈ ab_gw, w.before ([.ref (E.2.2.1 n)] : List Value).toArray s = true := fun w h => hts0 w (List.mem_cons_of_mem _ h)
  have hown : s.vm.findClass "java/lang/String" = some m.cls := findClass_of_methodNamed B.named
  have hS : va_S (fun q => s.heap.size ≤ q) s.heap s.heap [] := va_S.rf
  have hl := lv_entry ([.ref (E.2.2.1 n)]) (n := 1) (Nat.le_of_ble_eq_true rfl)
  rw [lg_entry_eq]
  generalize (lg_sl ([.ref (E.2.2.1 n)]) ++ List.replicate (1 - (lg_sl ([.ref (E.2.2.1 n)])).length) Slot.unset).toArray = ls at hl ⊢
  have hl : lv_has ls 1 [(0, .ref (E.2.2.1 n))] := hl
  refine va_gets hx hb hK.2.2.2.1 hS hown (hts _ (ab_lk_in (p := 501) (by decide +kernel))) (fun _ h => h) dJ0_isLatin1_aae02_0 ?_
  refine lv_if_eq (tgt := 17) hx hb dJ0_isLatin1_aae02_3 (by decide) (fun h => absurd h (by decide)) (fun _ => ?_)
  refine lv_aload_n hx hb dJ0_isLatin1_aae02_6 rfl (lv_at hl 0 rfl) ?_
  refine vk_getf hx hb (hK.2.1.1 n hn).2.1 hS hown (hts _ (ab_lk_in (p := 1799) (by decide +kernel))) (fun _ h => h) dJ0_isLatin1_aae02_7 ?_
  refine lv_if_ne (tgt := 17) hx hb dJ0_isLatin1_aae02_10 (by decide) (fun h => absurd rfl h) (fun _ => ?_)
  refine lv_iconst (v := 1) hx hb dJ0_isLatin1_aae02_13 (by decide) ?_
  refine lv_goto (tgt := 18) hx hb dJ0_isLatin1_aae02_14 (by decide) ?_
  exact W.zret hx hb hr (by decide) (fun t ht _ => ⟨rfl, ht⟩) (fun q hq => by cases hq) dJ0_isLatin1_aae02_18 hlocks
theorem j_pcheckN (l : Launch) (E : ab_E) (sz d : Nat) (i k : Int32) (h0 : ¬ i < 0) (h1 : i < k) : Met l (ab_nm mJ_pcheck) (ab_ws mJ_pcheck) (ab_rm (d + 1) 0 0) (jk_P E sz [.int i, .int k, .null]) (k2_QcV (.int i)) 0 0 (fun _ => False) := by
  refine Met.ofW (cc := cJ3_checkIndex_8e157) (maxL := 3) (ret := some .int) (by decide) rfl ?_
  intro p e s m args below meth c s₁ B hml hv
  obtain ⟨rfl, hsz, hK⟩ := hv
  subst hsz
  have hx := B.exec
  have hb := B.bytes
  have hr := B.returns
  have hlocks := B.notSynchronized
  have hts0 := atoms_spec (ws := ab_ws mJ_pcheck) B.pre
  have hts : ∀ w ∈ ab_gw, w.before ([.int i, .int k, .null] : List Value).toArray s = true := fun w h => hts0 w (List.mem_cons_of_mem _ h)
  have hown : s.vm.findClass "jdk/internal/util/Preconditions" = some m.cls := findClass_of_methodNamed B.named
  have hS : va_S (fun q => s.heap.size ≤ q) s.heap s.heap [] := va_S.rf
  have hl := lv_entry ([.int i, .int k, .null]) (n := 3) (Nat.le_of_ble_eq_true rfl)
  rw [lg_entry_eq]
  generalize (lg_sl ([.int i, .int k, .null]) ++ List.replicate (3 - (lg_sl ([.int i, .int k, .null])).length) Slot.unset).toArray = ls at hl ⊢
  have hl : lv_has ls 3 [(0, .int i), (1, .int k), (2, .null)] := hl
  refine lv_iload_n hx hb dJ3_checkIndex_8e157_0 rfl (lv_at hl 0 rfl) ?_
  refine lv_if_lt (tgt := 9) hx hb dJ3_checkIndex_8e157_1 (by decide) (fun h => absurd h h0) (fun _ => ?_)
  refine lv_iload_n hx hb dJ3_checkIndex_8e157_4 rfl (lv_at hl 0 rfl) ?_
  refine lv_iload_n hx hb dJ3_checkIndex_8e157_5 rfl (lv_at hl 1 rfl) ?_
  refine lv_icmp_lt (tgt := 16) hx hb dJ3_checkIndex_8e157_6 (by decide) (fun _ => ?_) (fun h => absurd h1 h)
  refine lv_iload_n hx hb dJ3_checkIndex_8e157_16 rfl (lv_at hl 0 rfl) ?_
  exact W.iret hx hb hr (fun t ht _ => ⟨rfl, ht⟩) (fun q hq => by cases hq) dJ3_checkIndex_8e157_17 hlocks
theorem j_pcheckR (l : Launch) (E : ab_E) (sz d : Nat) (i k : Int32) (t : Nat) (h0 : ¬ i < 0) (h1 : i < k) : Met l (ab_nm mJ_pcheck) (ab_ws mJ_pcheck) (ab_rm (d + 1) 0 0) (jk_P E sz [.int i, .int k, .ref t]) (k2_QcV (.int i)) 0 0 (fun _ => False) := by
  refine Met.ofW (cc := cJ3_checkIndex_8e157) (maxL := 3) (ret := some .int) (by decide) rfl ?_
  intro p e s m args below meth c s₁ B hml hv
  obtain ⟨rfl, hsz, hK⟩ := hv
  subst hsz
  have hx := B.exec
  have hb := B.bytes
  have hr := B.returns
  have hlocks := B.notSynchronized
  have hts0 := atoms_spec (ws := ab_ws mJ_pcheck) B.pre
  have hts : ∀ w ∈ ab_gw, w.before ([.int i, .int k, .ref t] : List Value).toArray s = true := fun w h => hts0 w (List.mem_cons_of_mem _ h)
  have hown : s.vm.findClass "jdk/internal/util/Preconditions" = some m.cls := findClass_of_methodNamed B.named
  have hS : va_S (fun q => s.heap.size ≤ q) s.heap s.heap [] := va_S.rf
  have hl := lv_entry ([.int i, .int k, .ref t]) (n := 3) (Nat.le_of_ble_eq_true rfl)
  rw [lg_entry_eq]
  generalize (lg_sl ([.int i, .int k, .ref t]) ++ List.replicate (3 - (lg_sl ([.int i, .int k, .ref t])).length) Slot.unset).toArray = ls at hl ⊢
  have hl : lv_has ls 3 [(0, .int i), (1, .int k), (2, .ref t)] := hl
  refine lv_iload_n hx hb dJ3_checkIndex_8e157_0 rfl (lv_at hl 0 rfl) ?_
  refine lv_if_lt (tgt := 9) hx hb dJ3_checkIndex_8e157_1 (by decide) (fun h => absurd h h0) (fun _ => ?_)
  refine lv_iload_n hx hb dJ3_checkIndex_8e157_4 rfl (lv_at hl 0 rfl) ?_
  refine lv_iload_n hx hb dJ3_checkIndex_8e157_5 rfl (lv_at hl 1 rfl) ?_
  refine lv_icmp_lt (tgt := 16) hx hb dJ3_checkIndex_8e157_6 (by decide) (fun _ => ?_) (fun h => absurd h1 h)
  refine lv_iload_n hx hb dJ3_checkIndex_8e157_16 rfl (lv_at hl 0 rfl) ?_
  exact W.iret hx hb hr (fun t ht _ => ⟨rfl, ht⟩) (fun q hq => by cases hq) dJ3_checkIndex_8e157_17 hlocks
theorem j_checkIndex (l : Launch) (E : ab_E) (sz d : Nat) (i k : Int32) (h0 : ¬ i < 0) (h1 : i < k) : Met l (ab_nm mJ_checkIndex) (ab_ws mJ_checkIndex) (ab_rm (d + 2) 0 0) (jk_P E sz [.int i, .int k]) (va_Sv (fun _ => True)) 0 0 (fun _ => False) := by
  refine Met.ofW (cc := cJ0_checkIndex_df160) (maxL := 2) (ret := none) (by decide) rfl ?_
  intro p e s m args below meth c s₁ B hml hv
  obtain ⟨rfl, hsz, hK⟩ := hv
  subst hsz
  have hx := B.exec
  have hb := B.bytes
  have hr := B.returns
  have hlocks := B.notSynchronized
  have hts0 := atoms_spec (ws := ab_ws mJ_checkIndex) B.pre
  have hts : ∀ w ∈ ab_gw, w.before ([.int i, .int k] : List Value).toArray s = true := fun w h => hts0 w (List.mem_cons_of_mem _ h)
  have hown : s.vm.findClass "java/lang/String" = some m.cls := findClass_of_methodNamed B.named
  have hS : va_S (fun q => s.heap.size ≤ q) s.heap s.heap [] := va_S.rf
  have hl := lv_entry ([.int i, .int k]) (n := 2) (Nat.le_of_ble_eq_true rfl)
  rw [lg_entry_eq]
  generalize (lg_sl ([.int i, .int k]) ++ List.replicate (2 - (lg_sl ([.int i, .int k])).length) Slot.unset).toArray = ls at hl ⊢
  have hl : lv_has ls 2 [(0, .int i), (1, .int k)] := hl
  refine lv_iload_n hx hb dJ0_checkIndex_df160_0 rfl (lv_at hl 0 rfl) ?_
  refine lv_iload_n hx hb dJ0_checkIndex_df160_1 rfl (lv_at hl 1 rfl) ?_
  rcases hK.2.2.2.2 with hZ | ⟨t, hZ⟩
  · refine va_gets hx hb hZ hS hown (hts _ (ab_lk_in (p := 517) (by decide +kernel))) (fun _ h => h) dJ0_checkIndex_df160_2 ?_
    refine W.callV (va_Run.run (va_runS (As := [.int i, .int k, .null]) (rest := []) ⟨hx, hb, hml, hown, hts⟩ (j_pcheckN l E s.heap.size d i k h0 h1) (jk_S (i := 1059) kJ_pcheck.1 rfl hts (ab_lk_in (p := 519) (by decide +kernel))) (jk_pre hK) rfl rfl hl.1 rfl (lv_room (Nat.le_of_ble_eq_true rfl)) dJ0_checkIndex_df160_5 ⟨Nat.le_refl _, Nat.le_refl _⟩)) ?_
    refine lv_pop hx hb dJ0_checkIndex_df160_8 rfl ?_
    exact W.vret hx hb hr (fun t ht _ => ⟨rfl, trivial, ht⟩) (fun q hq => by cases hq) dJ0_checkIndex_df160_9 hlocks
  · refine va_gets hx hb hZ hS hown (hts _ (ab_lk_in (p := 517) (by decide +kernel))) (fun _ h => h) dJ0_checkIndex_df160_2 ?_
    refine W.callV (va_Run.run (va_runS (As := [.int i, .int k, .ref t]) (rest := []) ⟨hx, hb, hml, hown, hts⟩ (j_pcheckR l E s.heap.size d i k t h0 h1) (jk_S (i := 1059) kJ_pcheck.1 rfl hts (ab_lk_in (p := 519) (by decide +kernel))) (jk_pre hK) rfl rfl hl.1 rfl (lv_room (Nat.le_of_ble_eq_true rfl)) dJ0_checkIndex_df160_5 ⟨Nat.le_refl _, Nat.le_refl _⟩)) ?_
    refine lv_pop hx hb dJ0_checkIndex_df160_8 rfl ?_
    exact W.vret hx hb hr (fun t ht _ => ⟨rfl, trivial, ht⟩) (fun q hq => by cases hq) dJ0_checkIndex_df160_9 hlocks
theorem j_fin : ∀ n : Fin 12, ab_len.getD n.val 0 = (ab_str n.val).length ∧ (Int32.ofNat (ab_len.getD n.val 0) >>> ((0 : Int32) &&& 31)) = Int32.ofInt (ab_str n.val).length := by decide +kernel
theorem j_fin2 : ∀ n : Fin 12, ∀ i : Fin 6, i.val < (ab_str n.val).length → (¬ Int32.ofNat i.val < 0) ∧ Int32.ofNat i.val < Int32.ofNat (ab_len.getD n.val 0) ∧ ¬ (Int32.ofNat i.val < 0 ∨ ab_len.getD n.val 0 ≤ (Int32.ofNat i.val).toNatClampNeg) ∧ ((((ab_byt.getD n.val []).getD (Int32.ofNat i.val).toNatClampNeg 0 &&& 255)).toUInt32 % 65536).toInt32 = Int32.ofInt ((ab_str n.val).getD i.val 0) ∧ narrow .char (.int (Int32.ofInt ((ab_str n.val).getD i.val 0))) = .int (Int32.ofInt ((ab_str n.val).getD i.val 0)) ∧ (0 ≤ (ab_str n.val).getD i.val 0 ∧ (ab_str n.val).getD i.val 0 ≤ 127) := by decide +kernel
theorem j_l1charAt (l : Launch) (E : ab_E) (sz d : Nat) {n i : Nat} (hn : n < 12) (hi : i < (ab_str n).length) (hi6 : i < 6) : Met l (ab_nm mJ_l1charAt) (ab_ws mJ_l1charAt) (ab_rm (d + 3) 0 0) (jk_P E sz [.ref (E.2.2.2 n), .int (Int32.ofNat i)]) (k2_QcV (.int (Int32.ofInt ((ab_str n).getD i 0)))) 0 0 (fun _ => False) := by
  obtain ⟨f0, f1, f2, f3, f4, f5⟩ := j_fin2 ⟨n, hn⟩ ⟨i, hi6⟩ hi
  refine Met.ofW (cc := cJ1_charAt_3b067) (maxL := 2) (ret := some .char) (by decide) rfl ?_
  intro p e s m args below meth c s₁ B hml hv
  obtain ⟨rfl, hsz, hK⟩ := hv
  subst hsz
  have hx := B.exec
  have hb := B.bytes
  have hr := B.returns
  have hlocks := B.notSynchronized
  have hts0 := atoms_spec (ws := ab_ws mJ_l1charAt) B.pre
  have hts : ∀ w ∈ ab_gw, w.before ([.ref (E.2.2.2 n), .int (Int32.ofNat i)] : List Value).toArray s = true := fun w h => hts0 w (List.mem_cons_of_mem _ h)
  have hown : s.vm.findClass "java/lang/StringLatin1" = some m.cls := findClass_of_methodNamed B.named
  have hS : va_S (fun q => s.heap.size ≤ q) s.heap s.heap [] := va_S.rf
  have hl := lv_entry ([.ref (E.2.2.2 n), .int (Int32.ofNat i)]) (n := 2) (Nat.le_of_ble_eq_true rfl)
  rw [lg_entry_eq]
  generalize (lg_sl ([.ref (E.2.2.2 n), .int (Int32.ofNat i)]) ++ List.replicate (2 - (lg_sl ([.ref (E.2.2.2 n), .int (Int32.ofNat i)])).length) Slot.unset).toArray = ls at hl ⊢
  have hl : lv_has ls 2 [(0, .ref (E.2.2.2 n)), (1, .int (Int32.ofNat i))] := hl
  have hT := (hK.2.1.1 n hn).2.2.2
  refine lv_iload_n hx hb dJ1_charAt_3b067_0 rfl (lv_at hl 1 rfl) ?_
  refine lv_aload_n hx hb dJ1_charAt_3b067_1 rfl (lv_at hl 0 rfl) ?_
  refine va_tlen hx hb hT hS rfl dJ1_charAt_3b067_2 ?_
  refine va_csv (va_Run.run (va_runS (As := [.int (Int32.ofNat i), .int (Int32.ofNat (ab_len.getD n 0))]) (rest := []) ⟨hx, hb, hml, hown, hts⟩ (j_checkIndex l E s.heap.size d (Int32.ofNat i) (Int32.ofNat (ab_len.getD n 0)) f0 f1) (jk_S (i := 9) kJ_checkIndex.1 rfl hts (ab_lk_in (p := 514) (by decide +kernel))) (jk_pre hK) rfl rfl hl.1 rfl (lv_room (Nat.le_of_ble_eq_true rfl)) dJ1_charAt_3b067_3 ⟨Nat.le_refl _, Nat.le_refl _⟩)) (fun _ => ?_)
  refine lv_aload_n hx hb dJ1_charAt_3b067_6 rfl (lv_at hl 0 rfl) ?_
  refine lv_iload_n hx hb dJ1_charAt_3b067_7 rfl (lv_at hl 1 rfl) ?_
  refine va_tb hx hb hT hS f2 rfl dJ1_charAt_3b067_8 ?_
  refine lv_sipush (v := 255) hx hb dJ1_charAt_3b067_9 (by decide) ?_
  refine lv_iand hx hb dJ1_charAt_3b067_12 ?_
  refine lv_i2c hx hb dJ1_charAt_3b067_13 f3 ?_
  exact W.zret hx hb hr f4 (fun t ht _ => ⟨rfl, ht⟩) (fun q hq => by cases hq) dJ1_charAt_3b067_14 hlocks
theorem j_length (l : Launch) (E : ab_E) (sz d : Nat) {n : Nat} (hn : n < 12) : Met l (ab_nm mJ_length) (ab_ws mJ_length) (ab_rm (d + 2) 0 0) (jk_P E sz [.ref (E.2.2.1 n)]) (k2_QcV (.int (Int32.ofInt (ab_str n).length))) 0 0 (fun _ => False) := by
  have f1 := (j_fin ⟨n, hn⟩).2
  refine Met.ofW (cc := cJ0_length_8abf5) (maxL := 1) (ret := some .int) (by decide) rfl ?_
  intro p e s m args below meth c s₁ B hml hv
  obtain ⟨rfl, hsz, hK⟩ := hv
  subst hsz
  have hx := B.exec
  have hb := B.bytes
  have hr := B.returns
  have hlocks := B.notSynchronized
  have hts0 := atoms_spec (ws := ab_ws mJ_length) B.pre
  have hts : ∀ w ∈ ab_gw, w.before ([.ref (E.2.2.1 n)] : List Value).toArray s = true := fun w h => hts0 w (List.mem_cons_of_mem _ h)
  have hown : s.vm.findClass "java/lang/String" = some m.cls := findClass_of_methodNamed B.named
  have hS : va_S (fun q => s.heap.size ≤ q) s.heap s.heap [] := va_S.rf
  have hl := lv_entry ([.ref (E.2.2.1 n)]) (n := 1) (Nat.le_of_ble_eq_true rfl)
  rw [lg_entry_eq]
  generalize (lg_sl ([.ref (E.2.2.1 n)]) ++ List.replicate (1 - (lg_sl ([.ref (E.2.2.1 n)])).length) Slot.unset).toArray = ls at hl ⊢
  have hl : lv_has ls 1 [(0, .ref (E.2.2.1 n))] := hl
  refine lv_aload_n hx hb dJ0_length_8abf5_0 rfl (lv_at hl 0 rfl) ?_
  refine vk_getf hx hb (hK.2.1.1 n hn).2.2.1 hS hown (hts _ (ab_lk_in (p := 1798) (by decide +kernel))) (fun _ h => h) dJ0_length_8abf5_1 ?_
  refine va_tlen hx hb (hK.2.1.1 n hn).2.2.2 hS rfl dJ0_length_8abf5_4 ?_
  refine lv_aload_n hx hb dJ0_length_8abf5_5 rfl (lv_at hl 0 rfl) ?_
  refine W.callV (va_Run.run (va_runV (As := []) (rest := [.int (Int32.ofNat (ab_len.getD n 0))]) (b := E.2.2.1 n) ⟨hx, hb, hml, hown, hts⟩ (j_coder l E s.heap.size d hn) (jk_V (i := 335) kJ_coder.1 rfl hts (ab_lk_in (p := 497) (by decide +kernel))) ⟨(jk_pre hK).1, vk_recv hK.2.1 hn hS, (jk_pre hK).2⟩ rfl rfl hl.1 rfl (lv_room (Nat.le_of_ble_eq_true rfl)) dJ0_length_8abf5_6 ⟨Nat.le_refl _, Nat.le_refl _⟩)) ?_
  refine lv_ishr hx hb dJ0_length_8abf5_9 ?_
  refine W.iret hx hb hr (fun t ht _ => ⟨?_, ht⟩) (fun q hq => by cases hq) dJ0_length_8abf5_10 hlocks
  rw [← f1]
theorem j_charAt (l : Launch) (E : ab_E) (sz d : Nat) {n i : Nat} (hn : n < 12) (hi : i < (ab_str n).length) (hi6 : i < 6) : Met l (ab_nm mJ_charAt) (ab_ws mJ_charAt) (ab_rm (d + 4) 0 0) (jk_P E sz [.ref (E.2.2.1 n), .int (Int32.ofNat i)]) (k2_QcV (.int (Int32.ofInt ((ab_str n).getD i 0)))) 0 0 (fun _ => False) := by
  obtain ⟨f0, f1, f2, f3, f4, f5⟩ := j_fin2 ⟨n, hn⟩ ⟨i, hi6⟩ hi
  refine Met.ofW (cc := cJ0_charAt_5068e) (maxL := 2) (ret := some .char) (by decide) rfl ?_
  intro p e s m args below meth c s₁ B hml hv
  obtain ⟨rfl, hsz, hK⟩ := hv
  subst hsz
  have hx := B.exec
  have hb := B.bytes
  have hr := B.returns
  have hlocks := B.notSynchronized
  have hts0 := atoms_spec (ws := ab_ws mJ_charAt) B.pre
  have hts : ∀ w ∈ ab_gw, w.before ([.ref (E.2.2.1 n), .int (Int32.ofNat i)] : List Value).toArray s = true := fun w h => hts0 w (List.mem_cons_of_mem _ h)
  have hown : s.vm.findClass "java/lang/String" = some m.cls := findClass_of_methodNamed B.named
  have hS : va_S (fun q => s.heap.size ≤ q) s.heap s.heap [] := va_S.rf
  have hl := lv_entry ([.ref (E.2.2.1 n), .int (Int32.ofNat i)]) (n := 2) (Nat.le_of_ble_eq_true rfl)
  rw [lg_entry_eq]
  generalize (lg_sl ([.ref (E.2.2.1 n), .int (Int32.ofNat i)]) ++ List.replicate (2 - (lg_sl ([.ref (E.2.2.1 n), .int (Int32.ofNat i)])).length) Slot.unset).toArray = ls at hl ⊢
  have hl : lv_has ls 2 [(0, .ref (E.2.2.1 n)), (1, .int (Int32.ofNat i))] := hl
  refine lv_aload_n hx hb dJ0_charAt_5068e_0 rfl (lv_at hl 0 rfl) ?_
  refine W.callV (va_Run.run (va_runV (As := []) (rest := []) (b := E.2.2.1 n) ⟨hx, hb, hml, hown, hts⟩ (j_isLatin1 l E s.heap.size (d + 2) hn) (jk_V (i := 492) kJ_isLatin1.1 rfl hts (ab_lk_in (p := 507) (by decide +kernel))) ⟨(jk_pre hK).1, vk_recv hK.2.1 hn hS, (jk_pre hK).2⟩ rfl rfl hl.1 rfl (lv_room (Nat.le_of_ble_eq_true rfl)) dJ0_charAt_5068e_1 ⟨Nat.le_refl _, Nat.le_refl _⟩)) ?_
  refine lv_if_eq (tgt := 16) hx hb dJ0_charAt_5068e_4 rfl (fun h => absurd h (by decide)) (fun _ => ?_)
  refine lv_aload_n hx hb dJ0_charAt_5068e_7 rfl (lv_at hl 0 rfl) ?_
  refine vk_getf hx hb (hK.2.1.1 n hn).2.2.1 hS hown (hts _ (ab_lk_in (p := 1798) (by decide +kernel))) (fun _ h => h) dJ0_charAt_5068e_8 ?_
  refine lv_iload_n hx hb dJ0_charAt_5068e_11 rfl (lv_at hl 1 rfl) ?_
  refine W.callV (va_Run.run (va_runS (As := [.ref (E.2.2.2 n), .int (Int32.ofNat i)]) (rest := []) ⟨hx, hb, hml, hown, hts⟩ (j_l1charAt l E s.heap.size d hn hi hi6) (jk_S (i := 495) kJ_l1charAt.1 rfl hts (ab_lk_in (p := 511) (by decide +kernel))) (jk_pre hK) rfl rfl hl.1 rfl (lv_room (Nat.le_of_ble_eq_true rfl)) dJ0_charAt_5068e_12 ⟨Nat.le_refl _, Nat.le_refl _⟩)) ?_
  exact W.zret hx hb hr f4 (fun t ht _ => ⟨rfl, ht⟩) (fun q hq => by cases hq) dJ0_charAt_5068e_15 hlocks
/-- such a contract as one of ours -/
theorem jk_Ct {d : Nat} {M : ab_M} (hm : ab_mok M) (hG : ab_G M = []) (hw : ab_wr M = []) (hsh : ∀ r : Int, ab_shr (ab_rt M) (ab_rp M) (some (ab_I r))) {as : List ab_V} {z : Int} (hz : ab_okk 0 z) (h : ∀ (l : Launch) (E : ab_E) (ad : Nat → Nat → Nat) (sz : Nat), Met l (ab_nm M) (ab_ws M) (ab_rm d 0 0) (jk_P E sz (as.map (ab_cv ad E.2.2.1))) (k2_QcV (.int (Int32.ofInt z))) 0 0 (fun _ => False)) : ab_Ct d 0 0 M as [] (ab_Is z []) := by
  refine ⟨hm, fun l E ad sz _ => ?_⟩
  intro p e hadm hc hk s m args below hf happ hP hK
  obtain ⟨ha, hsz, hW, hI, hKK⟩ := hP
  obtain ⟨n, o, h1, h2, h3, ⟨h4, h5⟩, L, h6, h7⟩ := h l E ad sz p e hadm hc hk s m args below hf happ ⟨ha, hsz, jk_K hKK (fun q hq => Or.inr hq)⟩ hK
  refine ⟨n, o, h1, h2, h3, ⟨⟨some (ab_I z), [], ad, h4, ⟨⟨hsh z, ?_⟩, rfl, rfl⟩, fun v hv => by cases hv; exact hz, ?_, ⟨fun _ => rfl, fun _ _ _ => rfl⟩, ⟨hI.1, fun o f h => Or.inl ⟨o, f, h, rfl⟩⟩⟩, ?_⟩, L, h6, fun q hq => (h7 q hq).elim⟩
  · rw [hw]; rfl
  · rw [h5]; exact hW
  · exact ⟨by rw [h5]; exact Nat.le_refl _, fun q _ _ => by rw [h5]⟩
theorem c_length (d : Nat) {n : Nat} (hn : n < 12) : ab_Ct (d + 4) 0 0 mJ_length [ab_S n] [] (ab_Is ((ab_str n).length : Int) []) := by
  have hb : ∀ n : Fin 12, ab_okk 0 ((ab_str n.val).length : Int) := by
    intro n
    have h : ∀ n : Fin 12, (ab_str n.val).length ≤ 6 := by decide
    have := h n
    exact ⟨by omega, by omega⟩
  exact jk_Ct kJ_length.1 rfl rfl (fun r => ⟨r, rfl⟩) (hb ⟨n, hn⟩) (fun l E ad sz => j_length l E sz (d + 2) hn)
theorem c_charAt (d : Nat) {n i : Nat} {z : Int} (hn : n < 12) (hz : (ab_str n)[i]? = some z) : ab_Ct (d + 4) 0 0 mJ_charAt [ab_S n, ab_I i] [] (ab_Is z []) := by
  have hi : i < (ab_str n).length := (List.getElem?_eq_some_iff.mp hz).1
  have h6 : ∀ n : Fin 12, (ab_str n.val).length ≤ 6 := by decide
  have hi6 : i < 6 := Nat.lt_of_lt_of_le hi (h6 ⟨n, hn⟩)
  have hzz : (ab_str n).getD i 0 = z := by rw [List.getD_eq_getElem?_getD, hz]; rfl
  have f5 := (j_fin2 ⟨n, hn⟩ ⟨i, hi6⟩ hi).2.2.2.2.2
  simp only [hzz] at f5
  refine jk_Ct kJ_charAt.1 rfl rfl (fun r => ⟨r, rfl⟩) ⟨by omega, by omega⟩ (fun l E ad sz => ?_)
  have := j_charAt l E sz d hn hi hi6
  rw [hzz] at this
  exact this
