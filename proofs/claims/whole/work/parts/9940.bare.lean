/-! BARE: the class's, which may throw -/
def nse : String := "java/util/NoSuchElementException"
def bx_nm : List String := ["java/lang/RuntimeException", "java/lang/Exception"]
def bx_W : List Cond := vx_at0 "HeadTrees" 375 nse bx_nm
def bx_B : List Cond := [.castable nse nse, .declares (Bundle.init0 "java/lang/RuntimeException"), .declares (Bundle.init0 "java/lang/Exception"), .declares (Bundle.init0 Bundle.tN)]
def lw_ats : List Cond → List Nat → Bool
  | [], _ => true
  | w :: ws, p :: ps => decide (lw_tbl[p]? = some w) && lw_ats ws ps
  | _ :: _, [] => false
theorem lw_ats_in : ∀ {ws : List Cond} {ps : List Nat}, lw_ats ws ps = true → ∀ w ∈ ws, w ∈ lw_tbl
  | [], _, _ => fun w hw => absurd hw List.not_mem_nil
  | w :: ws, p :: ps, h => fun v hv => by
    simp only [lw_ats, Bool.and_eq_true, decide_eq_true_eq] at h
    rcases List.mem_cons.mp hv with rfl | hv
    · exact List.mem_of_getElem? h.1
    · exact lw_ats_in h.2 v hv
  | _ :: _, [], h => by simp [lw_ats] at h
theorem bx_in : ∀ w ∈ bx_W, w ∈ lw_tbl := lw_ats_in (ps := [114, 1147, 1156, 1158, 1161, 1163, 1148, 1149, 124, 125, 1150, 1155, 1159, 1175, 1137, 1176, 1139, 1177, 1141, 1151, 1153, 1143, 1165, 1166, 1167, 1168, 1128, 1168, 1169, 1170, 1171, 1130, 1171, 1172, 1173, 1148, 1132, 1164, 1126, 1127, 1134, 1135, 1136, 1138, 1140, 1142, 1146, 1145, 1144]) (by decide +kernel)
theorem bx_bad : ∀ w ∈ bx_W.filter (fun w => !goodWord w), w ∈ bx_B := by decide +kernel
theorem bx_ot : ∀ w ∈ Cond.classLink "HeadTrees" 373 nse :: Cond.initialized nse :: vx_at0 "HeadTrees" 375 nse bx_nm, vx_ot w = true := by decide +kernel
def bx_N (U : State) : Prop := ∀ w ∈ bx_B, va_Nw w U
theorem bx_N_of {U : State} (h1 : va_Nw (.castable nse nse) U) (h2 : va_Nw (.declares (Bundle.init0 "java/lang/RuntimeException")) U) (h3 : va_Nw (.declares (Bundle.init0 "java/lang/Exception")) U) (h4 : va_Nw (.declares (Bundle.init0 Bundle.tN)) U) : bx_N U := by
  intro w hw
  simp only [bx_B, List.mem_cons, List.not_mem_nil, or_false] at hw
  rcases hw with rfl | rfl | rfl | rfl
  · exact h1
  · exact h2
  · exact h3
  · exact h4
theorem bx_N.at {U : State} (h : bx_N U) : va_Nw (.castable nse nse) U ∧ va_Nw (.declares (Bundle.init0 "java/lang/RuntimeException")) U ∧ va_Nw (.declares (Bundle.init0 "java/lang/Exception")) U ∧ va_Nw (.declares (Bundle.init0 Bundle.tN)) U :=
  ⟨h _ List.mem_cons_self, h _ (List.mem_cons_of_mem _ List.mem_cons_self), h _ (List.mem_cons_of_mem _ (List.mem_cons_of_mem _ List.mem_cons_self)), h _ (List.mem_cons_of_mem _ (List.mem_cons_of_mem _ (List.mem_cons_of_mem _ List.mem_cons_self)))⟩
theorem bx_N.warm {s U : State} (hW : s.WarmedH U.vm) (h : bx_N s) : bx_N U := bx_N_of (va_Nw.warmC hW h.at.1) (va_Nw.warmD hW h.at.2.1) (va_Nw.warmD hW h.at.2.2.1) (va_Nw.warmD hW h.at.2.2.2)
theorem bx_N.same {s U : State} (hv : s.vm = U.vm) (h : bx_N s) : bx_N U := bx_N_of (va_Nw.same rfl hv h.at.1) (va_Nw.same rfl hv h.at.2.1) (va_Nw.same rfl hv h.at.2.2.1) (va_Nw.same rfl hv h.at.2.2.2)
theorem bx_N.use {s : State} {args : Array Value} (h : bx_N s) : ∀ w ∈ bx_B, w.before args s = true := by
  intro w hw
  simp only [bx_B, List.mem_cons, List.not_mem_nil, or_false] at hw
  rcases hw with rfl | rfl | rfl | rfl
  · exact va_Nw.use rfl h.at.1
  · exact va_Nw.use rfl h.at.2.1
  · exact va_Nw.use rfl h.at.2.2.1
  · exact va_Nw.use rfl h.at.2.2.2
def bx_K (A : Nat → Prop) (U : State) (H : Heap) : Prop := bx_N U ∧ vx_Zq Bundle.tN "UNASSIGNED_STACK" Bundle.steD A U H ∧ vx_Zq Bundle.tN "SUPPRESSED_SENTINEL" Bundle.listD A U H
theorem bx_K_at {A B : Nat → Prop} {s U : State} {H : Heap} {locs : List Loc} (h : bx_K A s s.heap) (hS : va_S A s.heap H locs) (hU : U.heap = H) (hW : s.WarmedH U.vm) (hB : ∀ q, B q → A q) : bx_K B U U.heap := by
  obtain ⟨k1, k2, k3⟩ := h
  refine ⟨k1.warm hW, ?_, ?_⟩
  · rw [hU]
    exact (vx_Zq.moved hW.alike (k2.kept hS.2.1)).narrow hB
  · rw [hU]
    exact (vx_Zq.moved hW.alike (k3.kept hS.2.1)).narrow hB
theorem bx_K_blind {A : Nat → Prop} {U U' : State} (h : bx_K A U U.heap) (hh : U'.heap = U.heap) (hv : U'.vm = U.vm) : bx_K A U' U'.heap := by
  obtain ⟨k1, k2, k3⟩ := h
  have ha : U.vm.Alike U'.vm := by rw [hv]; exact Vm.Alike.refl _
  exact ⟨k1.same hv.symm, by rw [hh]; exact vx_Zq.moved ha k2, by rw [hh]; exact vx_Zq.moved ha k3⟩
def bx_P (E : ab_E) (ad : Nat → Nat → Nat) (sz : Nat) (G : List Nat) (as : List ab_V) (ws : List ab_Ob) : Array Value → State → Prop := va_Pc (as.map (ab_cv ad E.2.2.1)) (fun U => U.heap.size = sz ∧ ab_W E ad G ws U.heap ∧ ab_ia ad G (fun _ => True) ∧ ab_K E (ab_rg G ad sz) U U.heap ∧ bx_K (ab_rg G ad sz) U U.heap)
def bx_X (E : ab_E) (ad0 : Nat → Nat → Nat) (sz : Nat) (PostX : List ab_Ob → Prop) : String → State → State → Prop := fun cls st t => cls = nse ∧ (∃ (ws : List ab_Ob) (ad : Nat → Nat → Nat), PostX ws ∧ ab_W E ad ab_g8 ws t.heap ∧ ab_rel true ad0 ad ∧ ab_ia ad ab_g8 (ab_rg ab_g8 ad0 sz)) ∧ va_F (ab_rg ab_g8 ad0 sz) st t
def bx_Ct (d mc ms : Nat) (as : List ab_V) (ws : List ab_Ob) (Post : Option ab_V → List ab_Ob → Prop) (PostX : List ab_Ob → Prop) : Prop := ∀ (l : Launch) (E : ab_E) (ad : Nat → Nat → Nat) (sz : Nat), l.stackTraces = false → (∀ v ∈ as, ab_okv v) → vx_Met l (ab_nm mX8_bare) (ab_ws mX8_bare) (ab_rm d mc ms) (bx_P E ad sz ab_g8 as ws) (ab_Q E ad sz mX8_bare Post) (bx_X E ad sz PostX) mc ms (ab_rg ab_g8 ad sz)
def bx_At (x : ab_Cx) (d mc ms : Nat) (Post : Option ab_V → List ab_Ob → Prop) (PostX : List ab_Ob → Prop) : Prop :=
  (ab_cM x = mX8_bare ∧ ab_cd' x = d ∧ ab_cc x = mc ∧ ab_ck x = ms) ∧ ab_X x ∧ x.2.1.2.2.2 = vx_MQ x.2.1.1 (ab_Q (ab_cE x) (ab_c0 x) (ab_cs x).heap.size mX8_bare Post) (bx_X (ab_cE x) (ab_c0 x) (ab_cs x).heap.size PostX) (ab_ca x) (ab_cs x) mc ms (ab_cA x) ∧ ab_cA x = ab_rg ab_g8 (ab_c0 x) (ab_cs x).heap.size ∧ x.1.2.1.stackTraces = false ∧ bx_K (ab_cA x) (ab_cs x) (ab_cs x).heap ∧ ∀ y ∈ x.2.1.2.2.1.exceptionTable.toList, False
theorem bx_At.at {x : ab_Cx} {d mc ms : Nat} {Post : Option ab_V → List ab_Ob → Prop} {PostX : List ab_Ob → Prop} (h : bx_At x d mc ms Post PostX) : ab_At x mX8_bare d mc ms Post := by
  obtain ⟨h1, h2, h3, h4, h5, h6, h7⟩ := h
  refine ⟨h1, h2, fun t k => ?_, ?_⟩
  · rw [h3]
    obtain ⟨e1, e2, e3, e4⟩ := h1
    rw [e1, e3, e4] at k
    obtain ⟨o, k1, k2, k3, k4⟩ := k
    exact ⟨o, k1, k2, Or.inl ⟨k3, k4⟩⟩
  · rw [h1.1]; exact h4
theorem bx_intro {d mc ms : Nat} {as : List ab_V} {ws : List ab_Ob} {Post : Option ab_V → List ab_Ob → Prop} {PostX : List ab_Ob → Prop} (h1 : ∀ v ∈ as, ab_cat v = 1) (hl : as.length ≤ 4) (h : ∀ x : ab_Cx, bx_At x d mc ms Post PostX → ab_J x 0 (ab_ent as 4) [] ws 0 0) : bx_Ct (d + 1) mc ms as ws Post PostX := by
  intro l E ad sz htr hok
  refine vx_ofW (cc := ab_cd mX8_bare) (maxL := 4) (ret := some .int) kX8_bare.1.2 rfl ?_
  intro p e s m args below meth c s₁ B hml hT hv
  obtain ⟨rfl, hsz, hW, hI, hK, hbK⟩ := hv
  subst hsz
  have hts : ∀ w ∈ ab_ws mX8_bare, w.before (as.map (ab_cv ad E.2.2.1)).toArray s = true := atoms_spec (ws := ab_ws mX8_bare) B.pre
  obtain ⟨x, hxe⟩ : ∃ x : ab_Cx, x = ((p, l, e, ab_rm (d + 1) mc ms, s, m, (as.map (ab_cv ad E.2.2.1)).toArray), (below, meth, c, vx_MQ below (ab_Q E ad s.heap.size mX8_bare Post) (bx_X E ad s.heap.size PostX) (as.map (ab_cv ad E.2.2.1)).toArray s mc ms (ab_rg ab_g8 ad s.heap.size)), (E, ad, mX8_bare, ab_rg ab_g8 ad s.heap.size, d, mc, ms)) := ⟨_, rfl⟩
  have hx : bx_At x d mc ms Post PostX := by
    subst hxe
    exact ⟨⟨rfl, rfl, rfl, rfl⟩, ⟨B.exec, B.bytes, hml, findClass_of_methodNamed B.named, fun w hw => hts w (List.mem_cons_of_mem _ hw), B.returns, B.notSynchronized, hK, fun q hq => Or.inr hq, rfl⟩, rfl, rfl, htr, hbK, hT⟩
  have hj := h x hx
  subst hxe
  have hl0 := lv_entry (as.map (ab_cv ad E.2.2.1)) (n := 4) (by rw [ab_sl_len h1]; exact hl)
  rw [lg_entry_eq]
  generalize (lg_sl (as.map (ab_cv ad E.2.2.1)) ++ List.replicate (4 - (lg_sl (as.map (ab_cv ad E.2.2.1))).length) Slot.unset).toArray = ls at hl0 ⊢
  refine hj ad s.heap [] ls ⟨fun _ => rfl, fun _ _ _ => rfl⟩ hW ⟨hI.1, fun o f hs => ab_rg_in hs⟩ va_S.rf (ab_lc_le hl0 fun j v hj' => ?_) (fun v hv => by cases hv) (fun v hv => ?_) ?_ ⟨Nat.zero_le _, Nat.zero_le _⟩
  · have := ab_args_at (ad := ad) (ak := E.2.2.1) h1 (n := 0) (ab_ent_at hj')
    simpa using this
  · obtain ⟨j, hj'⟩ := ab_mem_at hv
    exact hok v (ab_at_mem (ab_ent_at hj'))
  · show (as.map some ++ List.replicate (4 - as.length) none).length = 4
    simp
    omega
theorem dbx_12 : decode (ab_cd mX8_bare) 12 = .ok (.if_icmp .ge 30, 3) := by decide +kernel
theorem dbx_42 : decode (ab_cd mX8_bare) 42 = .ok (.new 373, 3) := by decide +kernel
theorem dbx_45 : decode (ab_cd mX8_bare) 45 = .ok (.dup, 1) := by decide +kernel
theorem dbx_46 : decode (ab_cd mX8_bare) 46 = .ok (.invokespecial 375, 3) := by decide +kernel
theorem dbx_49 : decode (ab_cd mX8_bare) 49 = .ok (.athrow, 1) := by decide +kernel
theorem bx_fit : ∀ n ∈ bx_nm, Bundle.fit n = true := by decide +kernel
theorem bx_42 {x : ab_Cx} {d mc ms : Nat} {Post : Option ab_V → List ab_Ob → Prop} {PostX : List ab_Ob → Prop} (hx : bx_At x d mc ms Post PostX) (hd5 : 5 ≤ d) {lv : List (Option ab_V)} {ws : List ab_Ob} {kc ks : Nat} (hP : PostX ws) (hr : kc + 1 ≤ mc ∧ ks + 6 ≤ ms) : ab_J x 42 lv [] ws kc ks := by
  obtain ⟨⟨hM, rfl, rfl, rfl⟩, X, hQ, hA, htr, hK, hT⟩ := hx
  intro ad H locs ls h1 h2 h3 h4 h5 h6 h7 h8 h9
  have eG : ab_G (ab_cM x) = ab_g8 := by rw [hM]; rfl
  rw [eG] at h2 h3
  have emv : ab_mv (ab_cM x) = true := by rw [hM]; rfl
  rw [emv] at h1
  have hdc : ∀ {pc : Nat} {i : Instr} {n : Nat}, decode (ab_cd mX8_bare) pc = .ok (i, n) → ab_dec x pc i n := fun h => by unfold ab_dec; rw [hM]; exact h
  have hown : (ab_cs x).vm.findClass "HeadTrees" = some (ab_cm x).cls := by have := X.own; rw [hM] at this; exact this
  have hat : ∀ w ∈ vx_at0 "HeadTrees" 375 nse bx_nm, w.before (ab_ca x) (ab_cs x) = true := vx_hat (B := bx_B) (fun w hw => X.ts w (List.mem_filter.mpr ⟨bx_in w (List.mem_filter.mp hw).1, (List.mem_filter.mp hw).2⟩)) bx_bad hK.1.use
  show W _ _ _ _ _ _ _ _ _ _ H locs kc ks x.2.1.2.2.2 _
  rw [hQ]
  refine vx_throw0 (own := "HeadTrees") (cls := nse) (names := bx_nm) (ik := 373) (ic := 375) (A := ab_cA x) X.ex X.cd htr hown (by decide +kernel) bx_fit (X.ts _ (ab_lk_in (p := 1125) (by decide +kernel))) (X.ts _ (ab_lk_in (p := 117) (by decide +kernel))) hat bx_ot hK.2.1 hK.2.2 h4 (h5.1.trans X.ml.symm) (hdc dbx_42) (hdc dbx_45) (hdc dbx_46) (hdc dbx_49) (fun y hy => (hT y hy).elim) (by rw [X.R]; show 2 + 3 < ab_cd' x + 1; omega) (by rw [X.R]; show 0 + (13 * (2 + 1) + 42) ≤ 37 * (ab_cd' x + 1); omega) (by rw [X.R]; exact hr.1) (by rw [X.R]; exact hr.2) X.lk (fun t _ hz hk => ?_) h4.2.2 hr.1 hr.2
  have hF := h4
  rw [hA] at hF h3
  exact ⟨rfl, ⟨ws, ad, hP, ab_W_kept h2 (fun o f hs => hk _ (ab_W_lt h2 hs)), ⟨h1.1, fun h => by cases h⟩, h3⟩, Nat.le_trans hF.1 hz, fun q a1 a2 => by rw [hk q (Nat.lt_of_lt_of_le a1 hF.1)]; exact hF.2.1 q a1 a2⟩
def bx_q (x rd dr b ac sp cn wh sw swc swt kp t1 t2 ly wi : ab_Ob) (mc ms : Nat) (ws : List ab_Ob) : Prop := ∃ x' sp' wh', ws = [x', rd, dr, b, ac, sp', cn, wh', sw, swc, swt, kp, t1, t2, ly, wi] ∧ hF x' b sp' cn wh' ∧ (∀ f, f ≠ 5 → f ≠ 9 → x'.1 f = x.1 f) ∧ mc + ch_k sp' ≤ ch_k sp + 1 ∧ ms + ch_s sp' ≤ ch_s sp + 6
theorem h_bare {x rd dr b ac sp cn wh sw swc swt kp t1 t2 ly wi : ab_Ob} (hb : hB b) (h : hF x b sp cn wh) (i : Int) : ∃ mc ms, (mc ≤ ch_k sp + 1 ∧ ms ≤ ch_s sp + 6) ∧ bx_Ct 12 mc ms [ab_O 0, ab_I i] [x, rd, dr, b, ac, sp, cn, wh, sw, swc, swt, kp, t1, t2, ly, wi] (fun rv ws => ∃ k : Nat, ba_at b i k ∧ rv = some (ab_I k) ∧ bx_q x rd dr b ac sp cn wh sw swc swt kp t1 t2 ly wi mc ms ws) (fun ws => (∀ k : Nat, ¬ ba_at b i k) ∧ bx_q x rd dr b ac sp cn wh sw swc swt kp t1 t2 ly wi mc ms ws) := by
  have hn := hb.1.2.1
  have ha : ∀ v ∈ [ab_O 0, ab_I i], ab_cat v = 1 := fun v hv => by
    simp only [List.mem_cons, List.not_mem_nil, or_false] at hv
    rcases hv with rfl | rfl <;> rfl
  by_cases hn1 : 1 ≤ b.1 3
  · refine ⟨ch_k sp + 1, ch_s sp + 6, ⟨Nat.le_refl _, Nat.le_refl _⟩, bx_intro ha (Nat.le_of_ble_eq_true rfl) (fun c hc => ?_)⟩
    have hat := hc.at
    have hdc : ∀ {pc : Nat} {i : Instr} {n : Nat}, decode (ab_cd mX8_bare) pc = .ok (i, n) → ab_dec c pc i n := fun h => by unfold ab_dec; rw [hat.1.1]; exact h
    have key : ∀ (q t : Nat) (x' sp' wh' : ab_Ob) (kc ks : Nat), (t : Int) + q = b.1 3 → (∀ k : Nat, k < t → ¬ ba_at b i k) → hF x' b sp' cn wh' → (∀ f, f ≠ 5 → f ≠ 9 → x'.1 f = x.1 f) → kc + ch_k sp' ≤ ch_k sp → ks + ch_s sp' ≤ ch_s sp → (1 ≤ t → ch_k sp' = 0 ∧ ch_s sp' = 0) → ab_J c 4 [some (ab_O 0), some (ab_I i), some (ab_I (ba_n b t)), some (ab_I t)] [] [x', rd, dr, b, ac, sp', cn, wh', sw, swc, swt, kp, t1, t2, ly, wi] kc ks := by
      intro q
      induction q with
      | zero =>
        intro t x' sp' wh' kc ks ht hall hF' hf' k1 k2 hz
        have z := hz (by omega)
        refine vX8_bare_4 hat i _ _ x' rd dr b ac sp' cn wh' sw swc swt kp t1 t2 ly wi kc ks (ab_r_icmp hat.2.1 (cn := .ge) (t := 42) (by decide) (hdc dbx_12) ⟨fun _ => bx_42 hc (by decide) ⟨fun k hk => hall k (by have := hk.1; omega) hk, _, _, _, rfl, hF', hf', by omega, by omega⟩ ⟨by omega, by omega⟩, fun g => absurd (by omega) g⟩)
      | succ q ih =>
        intro t x' sp' wh' kc ks ht hall hF' hf' k1 k2 hz
        push_cast at ht
        obtain ⟨f, o, hf⟩ := tp_ex (sc_br b) (i := 0) (j := b.1 3 - 1) (k := (t : Int)) (by omega) (by omega)
        have tb := ba_n_b (b := b) t
        have fb := tp_b (by omega) (by omega) hf
        refine vX8_bare_4 hat i _ _ x' rd dr b ac sp' cn wh' sw swc swt kp t1 t2 ly wi kc ks (ab_r_icmp hat.2.1 (cn := .ge) (t := 42) (by decide) (hdc dbx_12) ⟨fun g => absurd g (by omega), fun _ => vX8_bare_15 hat i _ _ x' rd dr b ac sp' cn wh' sw swc swt kp t1 t2 ly wi kc ks ⟨ch_k sp', ch_s sp', ⟨by omega, by omega⟩, _, h_freshTree 4 x' rd dr b ac sp' cn wh' sw swc swt kp t1 t2 ly wi hb hn1 hF', fun v9 v10 v11 hq => ?_⟩⟩)
        obtain ⟨_, x'', sp'', wh'', e, q1, q2, q3, q4, q5⟩ := hq
        cases e
        have z1 := ch_k_0 q2.1.1
        have z2 := ch_s_0 q2.1.1
        have ff : ∀ f, f ≠ 5 → f ≠ 9 → v9.1 f = x.1 f := fun f a1 a2 => (q5 f a1 a2).trans (hf' f a1 a2)
        have nx := fun hall' => ih (t + 1) v9 v10 v11 (kc + ch_k sp') (ks + ch_s sp') (by push_cast; omega) hall' q1 ff (by omega) (by omega) (fun _ => ⟨z1, z2⟩)
        refine ab_x1 (c_notesUnder 9 q3 (by decide) (by omega) (by omega) (by omega) hf) ⟨fun g => ⟨by omega, ?_⟩, fun g => ⟨fun g2 => ⟨by omega, by omega, ?_⟩, fun g2 => ?_⟩⟩
        · have bz : ¬ ba_z b t := fun y => by
            obtain ⟨f', o', hf', g'⟩ := y
            have := tp_uni (by omega) (by omega) (by omega) hf hf'
            subst this
            exact g (by omega)
          rw [ba_n_n bz] at nx
          refine nx (fun k hk y => ?_)
          by_cases ek : k = t
          · subst ek; exact bz y.2.1
          · exact hall k (by omega) y
        · have bz : ba_z b t := ⟨f, o, hf, by omega⟩
          rw [ba_n_y bz] at nx
          refine nx (fun k hk y => ?_)
          by_cases ek : k = t
          · subst ek; exact g2 y.2.2
          · exact hall k (by omega) y
        · exact ⟨t, ⟨by omega, ⟨f, o, hf, by omega⟩, g2⟩, rfl, _, _, _, rfl, q1, ff, by omega, by omega⟩
    exact vX8_bare_0 hat i x rd dr b ac sp cn wh sw swc swt kp t1 t2 ly wi 0 0 (key (b.1 3).toNat 0 x sp wh 0 0 (by omega) (fun k hk => absurd hk (by omega)) h (fun f _ _ => rfl) (by omega) (by omega) (fun g => absurd g (by omega)))
  · refine ⟨1, 6, ⟨by omega, by omega⟩, bx_intro ha (Nat.le_of_ble_eq_true rfl) (fun c hc => ?_)⟩
    have hat := hc.at
    have hdc : ∀ {pc : Nat} {i : Instr} {n : Nat}, decode (ab_cd mX8_bare) pc = .ok (i, n) → ab_dec c pc i n := fun h => by unfold ab_dec; rw [hat.1.1]; exact h
    exact vX8_bare_0 hat i x rd dr b ac sp cn wh sw swc swt kp t1 t2 ly wi 0 0 (vX8_bare_4 hat i _ _ x rd dr b ac sp cn wh sw swc swt kp t1 t2 ly wi 0 0 (ab_r_icmp hat.2.1 (cn := .ge) (t := 42) (by decide) (hdc dbx_12) ⟨fun _ => bx_42 hc (by decide) ⟨fun k hk => absurd hk.1 (by omega), _, _, _, rfl, h, fun f _ _ => rfl, by omega, by omega⟩ ⟨by decide, by decide⟩, fun g => absurd (by omega) g⟩))
