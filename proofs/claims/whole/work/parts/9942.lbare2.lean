/-! BARE: the law's own, its contract -/
def bl_Post (x rd dr b ac sp cn wh sw swc swt kp t1 t2 ly wi o : ab_Ob) (i : Int) (mc ms : Nat) (rv : Option ab_V) (ws : List ab_Ob) : Prop := ∃ (w16 : List ab_Ob) (o' : ab_Ob), ws = w16 ++ [o'] ∧ bx_q x rd dr b ac sp cn wh sw swc swt kp t1 t2 ly wi mc ms w16 ∧ ((∃ k : Nat, ba_at b i k ∧ rv = some (ab_I 0) ∧ o'.1 0 = k) ∨ ((∀ k : Nat, ¬ ba_at b i k) ∧ rv = some (ab_I 1)))
theorem h_lbare {x rd dr b ac sp cn wh sw swc swt kp t1 t2 ly wi o : ab_Ob} (hb : hB b) (h : hF x b sp cn wh) (i : Int) : ∃ mc ms, (mc ≤ ch_k sp + 1 ∧ ms ≤ ch_s sp + 6) ∧ ∀ (l : Launch) (E : ab_E) (ad : Nat → Nat → Nat) (sz : Nat), bl_E E → l.stackTraces = false → ab_okk 0 i → vx_Met l yLB bl_ws (ab_rm 13 mc ms) (bx_P E ad sz bl_G [ab_O 0, ab_I i, ab_O 16] ([x, rd, dr, b, ac, sp, cn, wh, sw, swc, swt, kp, t1, t2, ly, wi] ++ [o])) (ab_Q E ad sz mLB (bl_Post x rd dr b ac sp cn wh sw swc swt kp t1 t2 ly wi o i mc ms)) (fun _ _ _ => False) mc ms (ab_rg bl_G ad sz) := by
  obtain ⟨mc, ms, bd, hC⟩ := h_bare (x := x) (rd := rd) (dr := dr) (b := b) (ac := ac) (sp := sp) (cn := cn) (wh := wh) (sw := sw) (swc := swc) (swt := swt) (kp := kp) (t1 := t1) (t2 := t2) (ly := ly) (wi := wi) hb h i
  refine ⟨mc, ms, bd, fun l E ad sz hE htr hi => ?_⟩
  refine vx_ofWH (hh := [(0, 9, 12, 13)]) (cc := method_3_code) (maxL := 4) (ret := some .int) (by decide) rfl ?_
  intro p e s m args below meth c s₁ B hml hv
  obtain ⟨rfl, hsz, hW, hI, hK, hbK⟩ := hv
  subst hsz
  have hts : ∀ w ∈ bl_ws, w.before (([ab_O 0, ab_I i, ab_O 16] : List ab_V).map (ab_cv ad E.2.2.1)).toArray s = true := atoms_spec (ws := bl_ws) B.pre
  have htab : c.exceptionTable.toList = tableOf [(0, 9, 12, 13)] := vx_table (x := yLB) B (hts _ List.mem_cons_self)
  obtain ⟨y, hye⟩ : ∃ y : ab_Cx, y = ((p, l, e, ab_rm 13 mc ms, s, m, (([ab_O 0, ab_I i, ab_O 16] : List ab_V).map (ab_cv ad E.2.2.1)).toArray), (below, meth, c, vx_MQ below (ab_Q E ad s.heap.size mLB (bl_Post x rd dr b ac sp cn wh sw swc swt kp t1 t2 ly wi o i mc ms)) (fun _ _ _ => False) (([ab_O 0, ab_I i, ab_O 16] : List ab_V).map (ab_cv ad E.2.2.1)).toArray s mc ms (ab_rg bl_G ad s.heap.size)), (E, ad, mLB, ab_rg bl_G ad s.heap.size, 12, mc, ms)) := ⟨_, rfl⟩
  have Y : ab_X y := by
    subst hye
    exact ⟨B.exec, B.bytes, hml, findClass_of_methodNamed B.named, fun w hw => hts w (List.mem_cons_of_mem _ hw), B.returns, B.notSynchronized, hK, fun q hq => Or.inr hq, rfl⟩
  have YQ : ab_XQ y (bl_Post x rd dr b ac sp cn wh sw swc swt kp t1 t2 ly wi o i mc ms) := by
    subst hye
    exact ⟨fun t k => (by obtain ⟨oc, k1, k2, k3, k4⟩ := k; exact ⟨oc, k1, k2, Or.inl ⟨k3, k4⟩⟩), rfl⟩
  have eM : ab_cM y = mLB := by rw [hye]
  have eE : ab_cE y = E := by rw [hye]
  have el : y.1.2.1 = l := by rw [hye]
  have ec : y.2.1.2.2.1 = c := by rw [hye]
  have hbY : bx_K (ab_cA y) (ab_cs y) (ab_cs y).heap := by rw [hye]; exact hbK
  have hd' : ab_cd' y = 12 := by rw [hye]
  have hmc : ab_cc y = mc ∧ ab_ck y = ms := by rw [hye]; exact ⟨rfl, rfl⟩
  have eG : ab_G (ab_cM y) = ab_g8 ++ [10] := by rw [eM]; rfl
  have hdc : ∀ {pc : Nat} {i : Instr} {n : Nat}, decode (ab_cd mLB) pc = .ok (i, n) → ab_dec y pc i n := fun h => by unfold ab_dec; rw [eM]; exact h
  have hown : (ab_cs y).vm.findClass "HeadTreesLaw" = some (ab_cm y).cls := by have := Y.own; rw [eM] at this; exact this
  have emv : ab_mv (ab_cM y) = true := by rw [eM]; rfl
  have hrt : ab_rt (ab_cM y) = some .int := by rw [eM]; rfl
  -- behind the call, when it answered
  have t1' : ∀ (w16 : List ab_Ob) (k : Nat) (kc ks : Nat), bx_q x rd dr b ac sp cn wh sw swc swt kp t1 t2 ly wi mc ms w16 → ba_at b i k → ab_J y 7 [some (ab_O 0), some (ab_I i), some (ab_O 16), none] [ab_I k, ab_I 0, ab_O 16] (w16 ++ [o]) kc ks := by
    intro w16 k kc ks hq hk
    obtain ⟨x', sp', wh', rfl, _⟩ := id hq
    refine ab_r_i2l Y (hdc dbl_7) ?_
    refine bl_last Y (by rw [eE]; exact hE) (o := 16) (ob := o) (by rw [eG]; rfl) rfl (hdc dbl_8) ?_
    refine ab_r_goto Y (t := 15) (by decide) (hdc dbl_9) ?_
    refine ab_r_iconst Y (z := 0) ⟨by decide, by decide⟩ (hdc dbl_15) ?_
    exact ab_r_iret Y YQ hrt (hdc dbl_16) ⟨_, ab_pf o 0 k, rfl, hq, Or.inl ⟨k, hk, rfl, hd_pf_eq o 0 k⟩⟩
  -- when it threw
  have t2' : ∀ (w16 : List ab_Ob) (kc ks : Nat), bx_q x rd dr b ac sp cn wh sw swc swt kp t1 t2 ly wi mc ms w16 → (∀ k : Nat, ¬ ba_at b i k) → ab_J y 13 [some (ab_O 0), some (ab_I i), some (ab_O 16), none] [] (w16 ++ [o]) kc ks := by
    intro w16 kc ks hq hk
    refine ab_r_iconst Y (z := 1) ⟨by decide, by decide⟩ (hdc dbl_13) ?_
    exact ab_r_iret Y YQ hrt (hdc dbl_14) ⟨_, o, rfl, hq, Or.inr ⟨hk, rfl⟩⟩
  have main : ab_J y 0 [some (ab_O 0), some (ab_I i), some (ab_O 16), none] [] ([x, rd, dr, b, ac, sp, cn, wh, sw, swc, swt, kp, t1, t2, ly, wi] ++ [o]) 0 0 := by
    refine ab_r_aload_n Y (i := 2) (hdc dbl_0) ?_
    refine ab_r_iconst Y (z := 0) ⟨by decide, by decide⟩ (hdc dbl_1) ?_
    refine ab_r_aload_n Y (i := 0) (hdc dbl_2) ?_
    refine ab_r_iload_n Y (i := 1) (hdc dbl_3) ?_
    show ab_J y 4 [some (ab_O 0), some (ab_I i), some (ab_O 16), none] [ab_I i, ab_O 0, ab_I 0, ab_O 16] ([x, rd, dr, b, ac, sp, cn, wh, sw, swc, swt, kp, t1, t2, ly, wi] ++ [o]) 0 0
    intro ad' H locs ls h1 h2 h3 h4 h5 h6 h7 h8 h9
    rw [eG] at h2 h3
    rw [emv] at h1
    rw [eE] at h2
    have p1 := (pre_W (G1 := ab_g8) h2 rfl).1
    have hA : ∀ q, ab_rg ab_g8 ad' H.size q → ab_cA y q := by
      rintro q (⟨o1, f1, hs, rfl⟩ | hq)
      · exact h3.2 _ _ (pre_sl1 hs).1
      · exact Y.A q (Nat.le_trans h4.1 hq)
    have i1 : ab_ia ad' ab_g8 (fun _ => True) := ⟨fun a1 b1 a2 b2 s1 s2 he => h3.1 _ _ _ _ (pre_sl1 s1).1 (pre_sl1 s2).1 he, fun _ _ _ => trivial⟩
    have hm := kX8_bare.1.1
    have hR : (ab_rm 12 mc ms).frames + 1 ≤ (ab_cR y).frames ∧ 8 + (ab_ml mX8_bare + 11) + (ab_rm 12 mc ms).locals ≤ (ab_cR y).locals := by
      rw [Y.R, hd']
      exact ⟨Nat.le_refl _, by show 8 + (4 + 11) + 37 * 12 ≤ 37 * (12 + 1); decide⟩
    have hm5 := hm.2.2.2.2
    rw [if_neg (show ¬ ab_st mX8_bare = true by decide)] at hm5
    have hlink : .methodLink (ab_nm (ab_cM y)).cls 7 (ab_nm mX8_bare) ∈ ab_gw := by rw [eM]; exact ab_lk_in (p := 1121) (by decide +kernel)
    have cw := cwV (own := (ab_nm (ab_cM y)).cls) (index := 7) (C := (ab_nm mX8_bare).cls) 1 Y.ts (ab_good_all hm (ws0 := [.methodLink (ab_nm (ab_cM y)).cls 7 (ab_nm mX8_bare), .instanceMethod (ab_nm mX8_bare), .selects (ab_nm mX8_bare).cls (ab_nm mX8_bare) (ab_nm mX8_bare), .initialized (ab_nm mX8_bare).cls]) (fun w h => by
      simp only [List.mem_cons, List.not_mem_nil, or_false] at h
      rcases h with rfl | rfl | rfl | rfl
      · exact hlink
      · exact hm5.1
      · exact hm5.2.1
      · exact hm.2.1)) rfl rfl rfl ⟨rfl, hm.2.2.1⟩ hR
    have hrcv : ∃ cell : Cell, H[ad' 0 0]? = some cell ∧ cell.vm.isStatics = false ∧ (ab_cs y).vm.findClass (ab_nm mX8_bare).cls = some cell.cls := by
      obtain ⟨⟨cell, q1, q2, q3, q4⟩, _⟩ := p1.2 0 8 x rfl rfl
      exact ⟨cell, q1, by rw [q3]; rfl, by rw [q2, ← eE]; exact (Y.K.1.1 8 _ (ab_cls (by decide))).2.1⟩
    have hfix : CallFix y.1.1 (ab_cm y) y.2.1.2.2.1 (ab_cd (ab_cM y)) (ab_ml (ab_cM y)) (ab_cs y) (ab_ca y) ab_gw (ab_nm (ab_cM y)).cls := ⟨Y.ex, Y.cd, Y.ml, Y.own, Y.ts⟩
    have hok : ∀ v ∈ [ab_O 0, ab_I i], ab_okv v := fun v hv => by
      simp only [List.mem_cons, List.not_mem_nil, or_false] at hv
      rcases hv with rfl | rfl
      · trivial
      · exact hi
    have hrun := vx_runV (As := [.int (Int32.ofInt i)]) (b := ad' 0 0) (rest := [.int (Int32.ofInt 0), .ref (ad' 16 0)]) (H := H) (locs := locs) (cells := 0) (slots := 0) (e := y.1.2.2.1) (below := y.2.1.1) (meth := y.2.1.2.1) (g := F0 (ab_cm y) 4 ls [.int (Int32.ofInt i), .ref (ad' 0 0), .int (Int32.ofInt 0), .ref (ad' 16 0)]) hfix (hC y.1.2.1 (ab_cE y) ad' H.size (by rw [el]; exact htr) hok) cw ⟨fun a U g mk q => ⟨q.1, q.2.1, q.2.2.1, q.2.2.2.1, ab_K_blind q.2.2.2.2.1 rfl rfl, bx_K_blind q.2.2.2.2.2 rfl rfl⟩, hrcv, fun U hU hWm => ⟨rfl, by rw [hU], by rw [hU, eE]; exact p1, i1, ab_K_at Y.K h4 hU hWm hA, bx_K_at hbY h4 hU hWm hA⟩⟩ rfl rfl h5.1 rfl (lv_room (Nat.le_of_ble_eq_true rfl)) (hdc dbl_4) (by rw [Y.R, hmc.1, hmc.2]; exact ⟨Nat.le_of_eq (Nat.zero_add _), Nat.le_of_eq (Nat.zero_add _)⟩)
    have after : ∀ (w16 : List ab_Ob) (ad1 : Nat → Nat → Nat) (t T' : State) (Lc : List Loc), ab_W (ab_cE y) ad1 ab_g8 w16 t.heap → ab_rel true ad' ad1 → ab_ia ad1 ab_g8 (ab_rg ab_g8 ad' H.size) → H.size ≤ t.heap.size → (∀ q : Nat, q < H.size → ¬ ab_rg ab_g8 ad' H.size q → t.heap[q]? = H[q]?) → T'.heap = t.heap → (∀ q ∈ Lc, ab_rg ab_g8 ad' H.size q.base) → ∃ ad2 : Nat → Nat → Nat, (∀ o, ad2 o 0 = ad' o 0) ∧ ab_W E ad2 (ab_g8 ++ [10]) (w16 ++ [o]) T'.heap ∧ ab_ia ad2 (ab_g8 ++ [10]) (ab_cA y) ∧ va_S (ab_cA y) (ab_cs y).heap T'.heap (locs ++ Lc) := by
      intro w16 ad1 t T' Lc W1 r1 j1 hz hk e1 hL
      rw [eE] at W1
      obtain ⟨W2, I2⟩ := pre_after (G1 := ab_g8) (G2 := [10]) h2 rfl h3 hA (by decide) W1 j1 hk
      refine ⟨_, fun o1 => ?_, by rw [e1]; exact W2, I2, by rw [e1]; exact Nat.le_trans h4.1 hz, fun q a1 a2 => ?_, fun q hq => ?_⟩
      · show (if o1 < ab_g8.length then ad1 o1 0 else ad' (o1 - ab_g8.length + ab_g8.length) 0) = _
        by_cases hlt : o1 < ab_g8.length
        · rw [if_pos hlt]; exact r1.1 o1
        · rw [if_neg hlt, Nat.sub_add_cancel (by omega)]
      · rw [e1, hk q (Nat.lt_of_lt_of_le a1 h4.1) (fun z => a2 (hA q z))]
        exact h4.2.1 q a1 a2
      · rcases List.mem_append.mp hq with hq | hq
        · exact h4.2.2 q hq
        · exact hA _ (hL q hq)
    intro T hT XX
    rcases hrun T hT XX with ⟨v, st₀, t, T', Lc, g0, X', hL, e1, e2, ⟨⟨rv, w16, ad1, ev, ⟨k, hk, erv, hbq⟩, okv, W1, rel1, ia1⟩, hz, hkp⟩, stp⟩ | ⟨q, st₀, t, T', Lc, En, ce, g0, X', hL, e1, e2, ⟨eN, ⟨w16, ad1, ⟨hno, hbq⟩, W1, rel1, ia1⟩, hz, hkp⟩, hce, hcv, hcl, stp⟩
    · subst erv
      cases ev
      rw [g0] at hz hkp
      obtain ⟨ad2, ha0, W2, I2, S2⟩ := after w16 ad1 t T' Lc W1 ⟨rel1.1, fun h => by cases h⟩ ia1 hz hkp e1 hL
      have kk := t1' w16 k (0 + mc) (0 + ms) hbq hk ad2 T'.heap (locs ++ Lc) ls (by rw [emv]; exact ⟨fun o1 => (ha0 o1).trans (h1.1 o1), fun h => by cases h⟩) (by rw [eG, eE]; exact W2) (by rw [eG]; exact I2) S2 (ab_lc_na ha0 rfl h5) (fun v hv => by
        simp only [List.mem_cons, List.not_mem_nil, or_false] at hv
        rcases hv with rfl | rfl | rfl
        · exact okv _ rfl
        · exact ⟨by decide, by decide⟩
        · trivial) h7 h8 (by rw [hmc.1, hmc.2]; exact ⟨Nat.le_of_eq (Nat.zero_add _), Nat.le_of_eq (Nat.zero_add _)⟩)
      have kk' : ab_Wx y T'.heap (locs ++ Lc) (0 + mc) (0 + ms) (F0 (ab_cm y) 7 ls [.int (Int32.ofInt k), .int (Int32.ofInt 0), .ref (ad' 16 0)]) := by
        rw [← ha0 16]
        exact kk
      obtain ⟨tt, a1, b1⟩ := kk' T' rfl X'
      exact ⟨tt, stp tt a1, b1⟩
    · subst eN
      rw [g0] at hz hkp
      obtain ⟨ad2, ha0, W2, I2, S2⟩ := after w16 ad1 t T' Lc W1 rel1 ia1 hz hkp e1 hL
      have h5' : lv_has ls 4 [(0, .ref (ad' 0 0)), (1, .int (Int32.ofInt i)), (2, .ref (ad' 16 0))] := by
        have := h5
        rw [eM] at this
        exact this
      have kc' : vx_W y.1.1 y.1.2.1 y.1.2.2.1 (ab_cR y) (ab_cs y) (ab_cm y) (ab_ca y) y.2.1.1 y.2.1.2.1 y.2.1.2.2.1 T'.heap (locs ++ Lc) (0 + mc) (0 + ms) y.2.1.2.2.2 (F0 (ab_cm y) 4 ls [.int (Int32.ofInt 0), .ref (ad' 16 0)]) q := by
        refine vx_catch (own := "HeadTreesLaw") (name := nse) hown [] ⟨0, 9, 12, 13⟩ [] (by rw [ec]; exact htab) (fun z hz => absurd hz List.not_mem_nil) (by decide) (by decide) (Y.ts _ (ab_lk_in (p := 1120) (by decide +kernel))) (hbY.1.use _ List.mem_cons_self) (by rw [e1]; exact hce) hcv hcl ?_
        refine lv_astore_n (lv' := [(3, .ref q), (0, .ref (ad' 0 0)), (1, .int (Int32.ofInt i)), (2, .ref (ad' 16 0))]) Y.ex Y.cd (hdc dbl_12) rfl h5' (by decide) rfl (fun ls' hl' => ?_)
        have h6' : lv_has ls' (ab_ml (ab_cM y)) (ab_lc ad' (ab_cE y).2.2.1 0 [some (ab_O 0), some (ab_I i), some (ab_O 16), none]) := by
          rw [eM]
          exact lv_sub hl' [1, 2, 3] rfl
        exact t2' w16 (0 + mc) (0 + ms) hbq hno ad2 T'.heap (locs ++ Lc) ls' (by rw [emv]; exact ⟨fun o1 => (ha0 o1).trans (h1.1 o1), fun h => by cases h⟩) (by rw [eG, eE]; exact W2) (by rw [eG]; exact I2) S2 (ab_lc_na ha0 rfl h6') (fun v hv => by cases hv) h7 h8 (by rw [hmc.1, hmc.2]; exact ⟨Nat.le_of_eq (Nat.zero_add _), Nat.le_of_eq (Nat.zero_add _)⟩)
      obtain ⟨tt, a1, b1⟩ := kc' T' rfl X'
      exact ⟨tt, stp.trans a1, b1⟩
  have hl0 := lv_entry (([ab_O 0, ab_I i, ab_O 16] : List ab_V).map (ab_cv ad E.2.2.1)) (n := 4) (Nat.le_of_ble_eq_true rfl)
  rw [lg_entry_eq]
  generalize (lg_sl (([ab_O 0, ab_I i, ab_O 16] : List ab_V).map (ab_cv ad E.2.2.1)) ++ List.replicate (4 - (lg_sl (([ab_O 0, ab_I i, ab_O 16] : List ab_V).map (ab_cv ad E.2.2.1))).length) Slot.unset).toArray = ls at hl0 ⊢
  have hlv : lv_has ls 4 (ab_lc ad E.2.2.1 0 [some (ab_O 0), some (ab_I i), some (ab_O 16), none]) := hl0
  subst hye
  refine main ad s.heap [] ls ⟨fun _ => rfl, fun _ _ _ => rfl⟩ hW ⟨hI.1, fun o f hs => ab_rg_in hs⟩ va_S.rf hlv (fun v hv => by cases hv) (fun v hv => ?_) rfl ⟨Nat.zero_le _, Nat.zero_le _⟩
  simp only [List.mem_cons, List.not_mem_nil, or_false, Option.some.injEq, reduceCtorEq] at hv
  rcases hv with rfl | rfl | rfl
  · trivial
  · exact hi
  · trivial
