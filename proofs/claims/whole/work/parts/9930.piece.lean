/-! PIECE: reader.draft and score change places -/
/-- behind a call that may have changed the places: the object called has its address -/
def ab_Q0 (E : ab_E) (ad0 : Nat → Nat → Nat) (sz : Nat) (M : ab_M) (Post : Option ab_V → List ab_Ob → Prop) : Array Value → State → Outcome → State → Prop := fun _ st oc t =>
  (∃ (rv : Option ab_V) (ws : List ab_Ob) (ad : Nat → Nat → Nat), oc = .returned (rv.map (ab_cv ad E.2.2.1)) ∧ Post rv ws ∧ (∀ v, rv = some v → ab_okv v) ∧ ab_W E ad (ab_G M) ws t.heap ∧ ad 0 0 = ad0 0 0 ∧ ab_ia ad (ab_G M) (ab_rg (ab_G M) ad0 sz)) ∧ va_F (ab_rg (ab_G M) ad0 sz) st t
def ab_Pc0 (E : ab_E) (ad : Nat → Nat → Nat) (sz : Nat) (M : ab_M) (as : List ab_V) (ws : List ab_Ob) : Array Value → State → Prop := va_Pc (as.map (ab_cv ad E.2.2.1)) (fun U => U.heap.size = sz ∧ ab_W E ad (ab_G M) ws U.heap ∧ ab_ia ad (ab_G M) (fun _ => True) ∧ ab_K E (ab_rg (ab_G M) ad sz) U U.heap)
def ab_W0 (d mc ms : Nat) (M : ab_M) (as : List ab_V) (ws : List ab_Ob) (Post : Option ab_V → List ab_Ob → Prop) : Prop :=
  ab_mok M ∧ ∀ (l : Launch) (E : ab_E) (ad : Nat → Nat → Nat) (sz : Nat), (∀ v ∈ as, ab_okv v) → Met l (ab_nm M) (ab_ws M) (ab_rm d mc ms) (ab_Pc0 E ad sz M as ws) (ab_Q0 E ad sz M Post) mc ms (ab_rg (ab_G M) ad sz)
def ab_At0 (x : ab_Cx) (M : ab_M) (d mc ms : Nat) (Post : Option ab_V → List ab_Ob → Prop) : Prop :=
  (ab_cM x = M ∧ ab_cd' x = d ∧ ab_cc x = mc ∧ ab_ck x = ms) ∧ ab_X x ∧ (∀ t : State, MQ x.2.1.1 (ab_Q0 (ab_cE x) (ab_c0 x) (ab_cs x).heap.size (ab_cM x) Post) (ab_ca x) (ab_cs x) (ab_cc x) (ab_ck x) (ab_cA x) t → x.2.1.2.2.2 t) ∧ ab_cA x = ab_rg (ab_G (ab_cM x)) (ab_c0 x) (ab_cs x).heap.size
theorem ab_Q_0 {E : ab_E} {ad0 : Nat → Nat → Nat} {sz : Nat} {M : ab_M} {Post : Option ab_V → List ab_Ob → Prop} {a : Array Value} {st t : State} {oc : Outcome} (h : ab_Q E ad0 sz M Post a st oc t) : ab_Q0 E ad0 sz M Post a st oc t := by
  obtain ⟨⟨rv, ws, ad, h1, h2, h3, h4, h5, h6⟩, h7⟩ := h
  exact ⟨⟨rv, ws, ad, h1, h2, h3, h4, h5.1 0, h6⟩, h7⟩
theorem MQ_to {below : List Frame} {Q Q' : Array Value → State → Outcome → State → Prop} {a : Array Value} {s : State} {mc ms : Nat} {free : Addr → Prop} (h : ∀ o t, Q a s o t → Q' a s o t) {t : State} (k : MQ below Q a s mc ms free t) : MQ below Q' a s mc ms free t := by
  obtain ⟨o, k1, k2, k3, k4⟩ := k
  exact ⟨o, k1, k2, h o t k3, k4⟩
theorem ab_At0.at {x : ab_Cx} {M : ab_M} {d mc ms : Nat} {Post : Option ab_V → List ab_Ob → Prop} (h : ab_At0 x M d mc ms Post) : ab_At x M d mc ms Post :=
  ⟨h.1, h.2.1, fun t k => h.2.2.1 t (MQ_to (fun _ _ => ab_Q_0) k), h.2.2.2⟩
theorem ab_intro0 {M : ab_M} {d mc ms : Nat} {as : List ab_V} {ws : List ab_Ob} {Post : Option ab_V → List ab_Ob → Prop} (hm : ab_mok M) (hpl : plainName (ab_nm M).cls = true) (h1 : ∀ v ∈ as, ab_cat v = 1) (hl : as.length ≤ ab_ml M) (h : ∀ x : ab_Cx, ab_At0 x M d mc ms Post → ab_J x 0 (ab_ent as (ab_ml M)) [] ws 0 0) : ab_W0 (d + 1) mc ms M as ws Post := by
  refine ⟨hm, fun l E ad sz hok => ?_⟩
  refine Met.ofW (cc := ab_cd M) (maxL := ab_ml M) (ret := ab_rt M) hpl rfl ?_
  intro p e s m args below meth c s₁ B hml hv
  obtain ⟨rfl, hsz, hW, hI, hK⟩ := hv
  subst hsz
  have hts : ∀ w ∈ ab_ws M, w.before (as.map (ab_cv ad E.2.2.1)).toArray s = true := atoms_spec (ws := ab_ws M) B.pre
  obtain ⟨x, hxe⟩ : ∃ x : ab_Cx, x = ((p, l, e, ab_rm (d + 1) mc ms, s, m, (as.map (ab_cv ad E.2.2.1)).toArray), (below, meth, c, MQ below (ab_Q0 E ad s.heap.size M Post) (as.map (ab_cv ad E.2.2.1)).toArray s mc ms (ab_rg (ab_G M) ad s.heap.size)), (E, ad, M, ab_rg (ab_G M) ad s.heap.size, d, mc, ms)) := ⟨_, rfl⟩
  have hx : ab_At0 x M d mc ms Post := by
    subst hxe
    refine ⟨⟨rfl, rfl, rfl, rfl⟩, ⟨B.exec, B.bytes, hml, findClass_of_methodNamed B.named, fun w hw => hts w (List.mem_cons_of_mem _ hw), B.returns, B.notSynchronized, hK, fun q hq => Or.inr hq, rfl⟩, fun _ h => h, rfl⟩
  have hj := h x hx
  subst hxe
  have hl0 := lv_entry (as.map (ab_cv ad E.2.2.1)) (n := ab_ml M) (by rw [ab_sl_len h1]; exact hl)
  rw [lg_entry_eq]
  generalize (lg_sl (as.map (ab_cv ad E.2.2.1)) ++ List.replicate (ab_ml M - (lg_sl (as.map (ab_cv ad E.2.2.1))).length) Slot.unset).toArray = ls at hl0 ⊢
  refine hj ad s.heap [] ls ⟨fun _ => rfl, fun _ _ _ => rfl⟩ hW ⟨hI.1, fun o f hs => ab_rg_in hs⟩ va_S.rf (ab_lc_le hl0 fun j v hj' => ?_) (fun v hv => by cases hv) (fun v hv => ?_) ?_ ⟨Nat.zero_le _, Nat.zero_le _⟩
  · have := ab_args_at (ad := ad) (ak := E.2.2.1) h1 (n := 0) (ab_ent_at hj')
    simpa using this
  · obtain ⟨j, hj'⟩ := ab_mem_at hv
    exact hok v (ab_at_mem (ab_ent_at hj'))
  · show (as.map some ++ List.replicate (ab_ml M - as.length) none).length = ab_ml M
    simp
    omega
/-! the swap -/
def sx_P (E : ab_E) (r sv sz : Nat) (V : Nat → Value) : Array Value → State → Prop := va_Pc [.ref r, .ref sv] (fun U => U.heap.size = sz ∧ t_OB r (E.1.1 4) (ab_lay 4).length (E.1.2 4) U.heap V ∧ ab_K E (fun a => a = r ∨ sz ≤ a) U U.heap)
def sx_Q (E : ab_E) (r q sv : Nat) (V : Nat → Value) : Array Value → State → Outcome → State → Prop := fun _ st oc t => oc = .returned (some (.ref q)) ∧ t_OB r (E.1.1 4) (ab_lay 4).length (E.1.2 4) t.heap (updV V 3 (.ref sv)) ∧ t.heap.size = st.heap.size ∧ ∀ a : Nat, a ≠ r → t.heap[a]? = st.heap[a]?
theorem kX4_swap : ab_mok mX4_swap ∧ plainName (ab_nm mX4_swap).cls = true := ab_mok_of 601 100 599 600 (by decide +kernel)
theorem dsw_0 : decode (ab_cd mX4_swap) 0 = .ok (.aload_n 0, 1) := by decide +kernel
theorem dsw_1 : decode (ab_cd mX4_swap) 1 = .ok (.getfield 25, 3) := by decide +kernel
theorem dsw_4 : decode (ab_cd mX4_swap) 4 = .ok (.astore_n 2, 1) := by decide +kernel
theorem dsw_5 : decode (ab_cd mX4_swap) 5 = .ok (.aload_n 0, 1) := by decide +kernel
theorem dsw_6 : decode (ab_cd mX4_swap) 6 = .ok (.aload_n 1, 1) := by decide +kernel
theorem dsw_7 : decode (ab_cd mX4_swap) 7 = .ok (.putfield 25, 3) := by decide +kernel
theorem dsw_10 : decode (ab_cd mX4_swap) 10 = .ok (.aload_n 2, 1) := by decide +kernel
theorem dsw_11 : decode (ab_cd mX4_swap) 11 = .ok (.areturn, 1) := by decide +kernel
theorem ro_get {x : ab_Cx} (X : ab_X x) {ci h f i pc kc ks : Nat} {V : Nat → Value} {H : Heap} {locs : List Loc} {ls : Array Slot} {rest : List Value} (ha : ci < 10) (hf : f < (ab_lay ci).length) (hw : .fieldLink (ab_nm (ab_cM x)).cls i (ab_T ci f).1 (ab_T ci f).2.1 (ab_T ci f).2.2.1 ∈ ab_gw) (hd : ab_dec x pc (.getfield i) 3) (hO : t_OB h ((ab_cE x).1.1 ci) (ab_lay ci).length ((ab_cE x).1.2 ci) H V) (kk : ab_Wx x H locs kc ks (F0 (ab_cm x) (pc + 3) ls (V f :: rest))) : ab_Wx x H locs kc ks (F0 (ab_cm x) pc ls (.ref h :: rest)) := by
  obtain ⟨cell, q1, q2, q3, q4⟩ := hO
  obtain ⟨hS, hfc, kC, hkC, hkind⟩ := X.K.1.1 ci _ (ab_cls ha)
  obtain ⟨cf, kf, fi, fd, hi, hsl⟩ := hS f hf
  have hv := q4 f hf
  rw [← hsl] at hv
  exact W.getf X.ex X.cd X.own (X.ts _ hw) hi (u_facts hfc hkC (u_lays X.ts (ab_inl ha) hf) hi).1 q1 (by rw [q3]; exact fun h => by cases h) (v := V f) hv rfl rfl hd kk
theorem c_swap (d : Nat) (l : Launch) (E : ab_E) (r q sv sz : Nat) (V : Nat → Value) (h3 : V 3 = .ref q) : Met l (ab_nm mX4_swap) (ab_ws mX4_swap) (ab_rm (d + 1) 0 0) (sx_P E r sv sz V) (sx_Q E r q sv V) 0 0 (fun a => a = r ∨ sz ≤ a) := by
  refine Met.ofW (cc := ab_cd mX4_swap) (maxL := 3) (ret := some (.object "HeadTrees$Score")) kX4_swap.2 rfl ?_
  intro p e s m args below meth c s₁ B hml hv
  obtain ⟨rfl, hsz, hO, hK⟩ := hv
  subst hsz
  have hts : ∀ w ∈ ab_ws mX4_swap, w.before ([.ref r, .ref sv] : List Value).toArray s = true := atoms_spec (ws := ab_ws mX4_swap) B.pre
  obtain ⟨x, hxe⟩ : ∃ x : ab_Cx, x = ((p, l, e, ab_rm (d + 1) 0 0, s, m, ([.ref r, .ref sv] : List Value).toArray), (below, meth, c, MQ below (sx_Q E r q sv V) ([.ref r, .ref sv] : List Value).toArray s 0 0 (fun a => a = r ∨ s.heap.size ≤ a)), (E, (fun _ _ => 0), mX4_swap, (fun a => a = r ∨ s.heap.size ≤ a), d, 0, 0)) := ⟨_, rfl⟩
  have X : ab_X x := by
    subst hxe
    exact ⟨B.exec, B.bytes, hml, findClass_of_methodNamed B.named, fun w hw => hts w (List.mem_cons_of_mem _ hw), B.returns, B.notSynchronized, hK, fun q hq => Or.inr hq, rfl⟩
  have hE : ab_cE x = E := by rw [hxe]
  have hM : ab_cM x = mX4_swap := by rw [hxe]
  have hl := lv_entry ([.ref r, .ref sv]) (n := 3) (Nat.le_of_ble_eq_true rfl)
  rw [lg_entry_eq]
  generalize (lg_sl ([.ref r, .ref sv]) ++ List.replicate (3 - (lg_sl ([.ref r, .ref sv])).length) Slot.unset).toArray = ls at hl ⊢
  have hl : lv_has ls 3 [(0, .ref r), (1, .ref sv)] := hl
  have hQ : x.2.1.2.2.2 = MQ below (sx_Q E r q sv V) ([.ref r, .ref sv] : List Value).toArray s 0 0 (fun a => a = r ∨ s.heap.size ≤ a) := by rw [hxe]
  have hdc : ∀ {pc : Nat} {i : Instr} {n : Nat}, decode (ab_cd mX4_swap) pc = .ok (i, n) → ab_dec x pc i n := fun h => by unfold ab_dec; rw [hM]; exact h
  have goal : ab_Wx x s.heap [] 0 0 (F0 (ab_cm x) 0 ls []) := by
    refine lv_aload_n X.ex X.cd (hdc dsw_0) rfl (lv_at hl 0 rfl) ?_
    refine ro_get X (ci := 4) (f := 3) (i := 25) (V := V) (by decide) (by decide) (by rw [hM]; exact ab_lk_in (p := 195) (by decide +kernel)) (hdc dsw_1) (by rw [hE]; exact hO) ?_
    rw [h3]
    refine lv_astore_n (lv' := [(2, .ref q), (0, .ref r), (1, .ref sv)]) X.ex X.cd (hdc dsw_4) rfl hl (by decide) rfl (fun ls hl => ?_)
    refine lv_aload_n X.ex X.cd (hdc dsw_5) rfl (lv_at hl 1 rfl) ?_
    refine lv_aload_n X.ex X.cd (hdc dsw_6) rfl (lv_at hl 2 rfl) ?_
    refine ro_put X (ci := 4) (f := 3) (i := 25) (V := V) (by decide) (by decide) (by rw [hM]; exact ab_lk_in (p := 195) (by decide +kernel)) (hdc dsw_7) (by rw [hE]; exact hO) rfl rfl (Or.inl rfl) (fun H' t hz hne => ?_)
    refine lv_aload_n X.ex X.cd (hdc dsw_10) rfl (lv_at hl 0 rfl) ?_
    show W _ _ _ _ _ _ _ _ _ _ H' _ 0 0 x.2.1.2.2.2 _
    rw [hQ]
    subst hxe
    exact W.aret (v := .ref q) X.ex X.cd X.rt (Or.inl ⟨_, rfl⟩) (Or.inr ⟨_, rfl⟩) (fun t' ht' _ => ⟨rfl, by rw [ht']; exact t, by rw [ht']; exact hz, fun a ha => by rw [ht']; exact hne a ha⟩) (fun z hz' => by
      simp only [List.nil_append, List.mem_cons, List.not_mem_nil, or_false] at hz'
      subst hz'
      exact Or.inl rfl) dsw_11 X.lk
  subst hxe
  exact goal
/-! places 2 and 3 change their names -/
def sw23 (ad : Nat → Nat → Nat) : Nat → Nat → Nat := fun o f => ad (if o = 2 then 3 else if o = 3 then 2 else o) f
theorem sw23_2 (ad : Nat → Nat → Nat) : sw23 (sw23 ad) = ad := by
  funext o f
  unfold sw23
  by_cases h2 : o = 2
  · subst h2; rfl
  · by_cases h3 : o = 3
    · subst h3; rfl
    · rw [if_neg h2, if_neg h3, if_neg h2, if_neg h3]
theorem sw23_sl {o f : Nat} (h : ab_sl ab_g8 o f) : ab_sl ab_g8 (if o = 2 then 3 else if o = 3 then 2 else o) f := by
  by_cases h2 : o = 2
  · subst h2
    match f, h with
    | 0, _ => exact ⟨5, rfl⟩
    | f + 1, ⟨c, hc, ha⟩ => cases hc; exact ⟨5, rfl, ha⟩
  · by_cases h3 : o = 3
    · subst h3
      match f, h with
      | 0, _ => exact ⟨5, rfl⟩
      | f + 1, ⟨c, hc, ha⟩ => cases hc; exact ⟨5, rfl, ha⟩
    · rw [if_neg h2, if_neg h3]
      exact h
theorem sw23_rg (ad : Nat → Nat → Nat) (sz : Nat) : ab_rg ab_g8 (sw23 ad) sz = ab_rg ab_g8 ad sz := by
  have one : ∀ (ad : Nat → Nat → Nat) (q : Nat), ab_rg ab_g8 (sw23 ad) sz q → ab_rg ab_g8 ad sz q := by
    rintro ad q (⟨o, f, hs, rfl⟩ | h)
    · exact Or.inl ⟨_, f, sw23_sl hs, rfl⟩
    · exact Or.inr h
  funext q
  refine propext ⟨one ad q, fun h => one (sw23 ad) q ?_⟩
  rw [sw23_2]
  exact h
theorem sw23_ia {ad : Nat → Nat → Nat} {A : Nat → Prop} (h : ab_ia ad ab_g8 A) : ab_ia (sw23 ad) ab_g8 A := by
  refine ⟨fun o f o' f' s1 s2 he => ?_, fun o f s1 => h.2 _ _ (sw23_sl s1)⟩
  obtain ⟨e1, e2⟩ := h.1 _ _ _ _ (sw23_sl s1) (sw23_sl s2) he
  refine ⟨?_, e2⟩
  by_cases h2 : o = 2
  · by_cases h2' : o' = 2
    · omega
    · by_cases h3' : o' = 3
      · rw [if_pos h2, if_neg h2', if_pos h3'] at e1; omega
      · rw [if_pos h2, if_neg h2', if_neg h3'] at e1; omega
  · by_cases h3 : o = 3
    · by_cases h2' : o' = 2
      · rw [if_neg h2, if_pos h3, if_pos h2'] at e1; omega
      · by_cases h3' : o' = 3
        · omega
        · rw [if_neg h2, if_pos h3, if_neg h2', if_neg h3'] at e1; omega
    · by_cases h2' : o' = 2
      · rw [if_neg h2, if_neg h3, if_pos h2'] at e1; omega
      · by_cases h3' : o' = 3
        · rw [if_neg h2, if_neg h3, if_neg h2', if_pos h3'] at e1; omega
        · rw [if_neg h2, if_neg h3, if_neg h2', if_neg h3'] at e1; exact e1
theorem sx_kd5 (f k : Nat) : ab_kd 5 f ≠ k + 7 := by
  intro h
  have h1 : ∀ f, f < 10 → ab_kd 5 f < 7 := by decide
  by_cases hf : f < 10
  · have := h1 f hf; omega
  · have : ab_kd 5 f = 0 := by
      unfold ab_kd
      rw [List.getD_eq_getElem?_getD, List.getElem?_eq_none (by show 10 ≤ f; omega)]
      rfl
    omega
theorem sw23_W {E : ab_E} {ad : Nat → Nat → Nat} {A : Nat → Prop} {x rd dr b ac sp cn wh sw swc swt kp t1 t2 ly wi : ab_Ob} {H H2 : Heap} (hW : ab_W E ad ab_g8 [x, rd, dr, b, ac, sp, cn, wh, sw, swc, swt, kp, t1, t2, ly, wi] H) (hI : ab_ia ad ab_g8 A) (t0 : t_OB (ad 0 0) (E.1.1 8) (ab_lay 8).length (E.1.2 8) H2 (updV (fun f => ab_fv ad 0 x f (ab_kd 8 f)) 2 (.ref (ad 2 0)))) (t1' : t_OB (ad 1 0) (E.1.1 4) (ab_lay 4).length (E.1.2 4) H2 (updV (fun f => ab_fv ad 1 rd f (ab_kd 4 f)) 3 (.ref (ad 3 0)))) (hne : ∀ q, q ≠ ad 0 0 → q ≠ ad 1 0 → H2[q]? = H[q]?) : ab_W E (sw23 ad) ab_g8 [x, rd, b, dr, ac, sp, cn, wh, sw, swc, swt, kp, t1, t2, ly, wi] H2 := by
  have hk : ∀ o f, ab_sl ab_g8 o f → (o, f) ≠ (0, 0) → (o, f) ≠ (1, 0) → H2[ad o f]? = H[ad o f]? := fun o f hs h0 h1 => hne _ (fun e => h0 (by obtain ⟨a, b⟩ := hI.1 _ _ _ _ hs (ab_sl0 (ci := 8) rfl) e; rw [a, b])) (fun e => h1 (by obtain ⟨a, b⟩ := hI.1 _ _ _ _ hs (ab_sl0 (ci := 4) rfl) e; rw [a, b]))
  have kept : ∀ o ci ob, ab_at ab_g8 o = some ci → ab_at [x, rd, dr, b, ac, sp, cn, wh, sw, swc, swt, kp, t1, t2, ly, wi] o = some ob → 2 ≤ o → ab_ob E ad o ci ob H2 := fun o ci ob g1 g2 ho => by
    obtain ⟨q1, q2, q3⟩ := hW.2 o ci ob g1 g2
    exact ⟨q1.kept (hk o 0 (ab_sl0 g1) (by intro h; cases h; omega) (by intro h; cases h; omega)), fun f hf => by rw [hk o _ (ab_slf g1 hf) (by intro h; cases h) (by intro h; cases h)]; exact q2 f hf, q3⟩
  refine ⟨rfl, fun o ci ob g1 g2 => ?_⟩
  match o, g1, g2 with
  | 0, g1, g2 =>
    cases g1; cases g2
    obtain ⟨q1, q2, q3⟩ := hW.2 0 8 x rfl rfl
    refine ⟨t0.to (fun f hf => ?_), fun f hf => ?_, q3⟩
    · match f, hf with
      | 0, _ => rfl
      | 1, _ => rfl
      | 2, _ => rfl
      | 3, _ => rfl
      | 4, _ => rfl
      | 5, _ => rfl
      | 6, _ => rfl
      | 7, _ => rfl
      | 8, _ => rfl
      | 9, _ => rfl
      | 10, _ => rfl
      | 11, _ => rfl
      | 12, _ => rfl
      | 13, _ => rfl
      | 14, _ => rfl
      | 15, _ => rfl
      | 16, _ => rfl
      | k + 17, h => exact absurd (show k + 17 < 17 from h) (by omega)
    · have e := q2 f hf
      show H2[ad 0 (f + 1)]? = _
      rw [hk 0 _ (ab_slf (ci := 8) rfl hf) (by intro h; cases h) (by intro h; cases h)]
      exact e
  | 1, g1, g2 =>
    cases g1; cases g2
    obtain ⟨q1, q2, q3⟩ := hW.2 1 4 rd rfl rfl
    refine ⟨t1'.to (fun f hf => ?_), fun f hf => ?_, q3⟩
    · match f, hf with
      | 0, _ => rfl
      | 1, _ => rfl
      | 2, _ => rfl
      | 3, _ => rfl
      | 4, _ => rfl
      | 5, _ => rfl
      | 6, _ => rfl
      | 7, _ => rfl
      | 8, _ => rfl
      | 9, _ => rfl
      | 10, _ => rfl
      | k + 11, h => exact absurd (show k + 11 < 11 from h) (by omega)
    · have e := q2 f hf
      show H2[ad 1 (f + 1)]? = _
      rw [hk 1 _ (ab_slf (ci := 4) rfl hf) (by intro h; cases h) (by intro h; cases h)]
      exact e
  | 2, g1, g2 =>
    cases g1; cases g2
    exact ab_ob_move (kept 3 5 b rfl rfl (by decide)) rfl (fun _ _ => rfl) (fun f k hk => absurd hk (sx_kd5 f k))
  | 3, g1, g2 =>
    cases g1; cases g2
    exact ab_ob_move (kept 2 5 dr rfl rfl (by decide)) rfl (fun _ _ => rfl) (fun f k hk => absurd hk (sx_kd5 f k))
  | o + 4, g1, g2 =>
    have e : ∀ p, 4 ≤ p → ∀ f, sw23 ad p f = ad p f := fun p hp f => by unfold sw23; rw [if_neg (by omega), if_neg (by omega)]
    exact ab_ob_move (kept (o + 4) ci ob g1 g2 (by omega)) (e _ (by omega) _) (fun f _ => e _ (by omega) _) (fun f k _ => e _ (by omega) _)
/-- the context whose places 2 and 3 have changed their names -/
def sx_x (x : ab_Cx) : ab_Cx := (x.1, x.2.1, (x.2.2.1, sw23 (ab_c0 x), x.2.2.2.2))
theorem sx_at {x : ab_Cx} {d mc ms : Nat} {Post : Option ab_V → List ab_Ob → Prop} (h : ab_At0 x mX8_piece d mc ms Post) : ab_At (sx_x x) mX8_piece d mc ms Post := by
  obtain ⟨h1, h2, h3, h4⟩ := h
  have eM := h1.1
  have eG : ab_G (ab_cM x) = ab_g8 := by rw [eM]; rfl
  have er : ab_rg (ab_G (ab_cM x)) (sw23 (ab_c0 x)) (ab_cs x).heap.size = ab_rg (ab_G (ab_cM x)) (ab_c0 x) (ab_cs x).heap.size := by rw [eG]; exact sw23_rg _ _
  refine ⟨h1, h2, fun t k => h3 t (MQ_to (fun o t' hq => ?_) k), ?_⟩
  · obtain ⟨⟨rv, ws, ad, g1, g2, g3, g4, g5, g6⟩, g7⟩ := hq
    have e : ab_rg (ab_G (ab_cM (sx_x x))) (ab_c0 (sx_x x)) (ab_cs (sx_x x)).heap.size = ab_rg (ab_G (ab_cM x)) (ab_c0 x) (ab_cs x).heap.size := er
    rw [e] at g6 g7
    exact ⟨⟨rv, ws, ad, g1, g2, g3, g4, g5.1 0, g6⟩, g7⟩
  · show ab_cA x = ab_rg (ab_G (ab_cM x)) (sw23 (ab_c0 x)) (ab_cs x).heap.size
    rw [er]
    exact h4
theorem dpc_54 : decode (ab_cd mX8_piece) 54 = .ok (.invokevirtual 111, 3) := by decide +kernel
theorem dpc_57 : decode (ab_cd mX8_piece) 57 = .ok (.putfield 23, 3) := by decide +kernel
theorem pc_54 {x0 : ab_Cx} {d mc ms : Nat} {Post : Option ab_V → List ab_Ob → Prop} (hx : ab_At0 x0 mX8_piece (d + 1) mc ms Post) {x rd dr b ac sp cn wh sw swc swt kp t1 t2 ly wi : ab_Ob} {kc ks : Nat} (k : ab_J (sx_x x0) 60 [some (ab_O 0), none] [] [x, rd, b, dr, ac, sp, cn, wh, sw, swc, swt, kp, t1, t2, ly, wi] kc ks) : ab_J x0 54 [some (ab_O 0), none] [ab_O 3, ab_O 1, ab_O 0] [x, rd, dr, b, ac, sp, cn, wh, sw, swc, swt, kp, t1, t2, ly, wi] kc ks := by
  obtain ⟨⟨hM, hd, hcc, hck⟩, X, _, hA⟩ := hx
  have eG : ab_G (ab_cM x0) = ab_g8 := by rw [hM]; rfl
  have hdc : ∀ {pc : Nat} {i : Instr} {n : Nat}, decode (ab_cd mX8_piece) pc = .ok (i, n) → ab_dec x0 pc i n := fun h => by unfold ab_dec; rw [hM]; exact h
  intro ad H locs ls h1 h2 h3 h4 h5 h6 h7 h8 h9
  rw [eG] at h2 h3
  obtain ⟨r1, r2, r3⟩ := h2.2 1 4 rd rfl rfl
  obtain ⟨o1, o2, o3⟩ := h2.2 0 8 x rfl rfl
  have hlt : ∀ o f, ab_sl ab_g8 o f → ad o f < H.size := fun o f hs => ab_W_lt h2 hs
  have hA1 : ∀ q, (q = ad 1 0 ∨ H.size ≤ q) → ab_cA x0 q := fun q hq => by
    rcases hq with rfl | hq
    · exact h3.2 _ _ (ab_sl0 (ci := 4) rfl)
    · exact X.A q (Nat.le_trans h4.1 hq)
  have hm := kX4_swap.1
  have hR : (ab_rm (d + 1) 0 0).frames + 1 ≤ (ab_cR x0).frames ∧ 8 + (ab_ml mX4_swap + 11) + (ab_rm (d + 1) 0 0).locals ≤ (ab_cR x0).locals := by
    rw [X.R, hd]
    refine ⟨Nat.le_refl _, ?_⟩
    show 8 + (3 + 11) + 37 * (d + 1) ≤ 37 * (d + 1 + 1)
    omega
  have hfix : CallFix x0.1.1 (ab_cm x0) x0.2.1.2.2.1 (ab_cd (ab_cM x0)) (ab_ml (ab_cM x0)) (ab_cs x0) (ab_ca x0) ab_gw (ab_nm (ab_cM x0)).cls := ⟨X.ex, X.cd, X.ml, X.own, X.ts⟩
  have hm5 := hm.2.2.2.2
  rw [if_neg (show ¬ ab_st mX4_swap = true by decide)] at hm5
  have hlink : .methodLink (ab_nm (ab_cM x0)).cls 111 (ab_nm mX4_swap) ∈ ab_gw := by rw [hM]; exact ab_lk_in (p := 598) (by decide +kernel)
  have cw := cwV (own := (ab_nm (ab_cM x0)).cls) (index := 111) (C := (ab_nm mX4_swap).cls) 1 X.ts (ab_good_all hm (ws0 := [.methodLink (ab_nm (ab_cM x0)).cls 111 (ab_nm mX4_swap), .instanceMethod (ab_nm mX4_swap), .selects (ab_nm mX4_swap).cls (ab_nm mX4_swap) (ab_nm mX4_swap), .initialized (ab_nm mX4_swap).cls]) (fun w h => by
    simp only [List.mem_cons, List.not_mem_nil, or_false] at h
    rcases h with rfl | rfl | rfl | rfl
    · exact hlink
    · exact hm5.1
    · exact hm5.2.1
    · exact hm.2.1)) rfl rfl rfl ⟨rfl, hm.2.2.1⟩ hR
  have hrcv : ∃ cell : Cell, H[ad 1 0]? = some cell ∧ cell.vm.isStatics = false ∧ (ab_cs x0).vm.findClass (ab_nm mX4_swap).cls = some cell.cls := by
    obtain ⟨cell, q1, q2, q3, q4⟩ := r1
    exact ⟨cell, q1, by rw [q3]; rfl, by rw [q2]; exact (X.K.1.1 4 _ (ab_cls (by decide))).2.1⟩
  have hrun := va_runV (As := [.ref (ad 3 0)]) (b := ad 1 0) (rest := [.ref (ad 0 0)]) (H := H) (locs := locs) (cells := kc) (slots := ks) (e := x0.1.2.2.1) (below := x0.2.1.1) (meth := x0.2.1.2.1) (g := F0 (ab_cm x0) 54 ls [.ref (ad 3 0), .ref (ad 1 0), .ref (ad 0 0)]) hfix (c_swap d x0.1.2.1 (ab_cE x0) (ad 1 0) (ad 2 0) (ad 3 0) H.size (fun f => ab_fv ad 1 rd f (ab_kd 4 f)) rfl) cw ⟨fun a U g mk q => ⟨q.1, q.2.1, q.2.2.1, ab_K_blind q.2.2.2 rfl rfl⟩, hrcv, fun U hU hWm => ⟨rfl, by rw [hU], by rw [hU]; exact r1, ab_K_at X.K h4 hU hWm hA1⟩⟩ rfl rfl h5.1 rfl (lv_room (Nat.le_of_ble_eq_true rfl)) (hdc dpc_54) (by rw [X.R]; exact h9)
  show W _ _ _ _ _ _ _ _ _ _ H locs kc ks x0.2.1.2.2.2 _
  intro T hT XX
  obtain ⟨v, st₀, t, T', Lc, g0, X', hL, e1, e2, ⟨hv, q1, q2, q3⟩, st⟩ := hrun T hT XX
  cases hv
  have hH1 : T'.heap = t.heap := e1
  rw [g0] at q2 q3
  have hS1 : va_S (ab_cA x0) (ab_cs x0).heap T'.heap (locs ++ Lc) := ⟨by rw [e1, q2]; exact h4.1, fun q a1 a2 => by rw [e1, q3 q (fun e => a2 (by rw [e]; exact hA1 _ (Or.inl rfl)))]; exact h4.2.1 q a1 a2, fun q hq => by
    rcases List.mem_append.mp hq with h | h
    · exact h4.2.2 q h
    · exact hA1 _ (hL q h)⟩
  have n01 : ad 0 0 ≠ ad 1 0 := fun e => by have := (h3.1 _ _ _ _ (ab_sl0 (ci := 8) rfl) (ab_sl0 (ci := 4) rfl) e).1; omega
  have O1 : t_OB (ad 0 0) ((ab_cE x0).1.1 8) (ab_lay 8).length ((ab_cE x0).1.2 8) T'.heap (fun f => ab_fv ad 0 x f (ab_kd 8 f)) := o1.kept (by rw [e1]; exact q3 _ n01)
  have kk : W x0.1.1 x0.1.2.1 x0.1.2.2.1 (ab_cR x0) (ab_cs x0) (ab_cm x0) (ab_ca x0) x0.2.1.1 x0.2.1.2.1 x0.2.1.2.2.1 T'.heap (locs ++ Lc) (kc + 0) (ks + 0) x0.2.1.2.2.2 (F0 (ab_cm x0) 57 ls [.ref (ad 2 0), .ref (ad 0 0)]) := by
    refine ro_put (x := x0) X (ci := 8) (f := 2) (i := 23) (V := fun f => ab_fv ad 0 x f (ab_kd 8 f)) (by decide) (by decide) (by rw [hM]; exact ab_lk_in (p := 391) (by decide +kernel)) (hdc dpc_57) O1 rfl rfl (Or.inl rfl) (fun H2 t2' hz hne => ?_)
    have W2 := sw23_W h2 h3 t2' ((by rw [e1]; exact q1 : t_OB (ad 1 0) ((ab_cE x0).1.1 4) (ab_lay 4).length ((ab_cE x0).1.2 4) T'.heap (updV (fun f => ab_fv ad 1 rd f (ab_kd 4 f)) 3 (.ref (ad 3 0)))).kept (hne _ (fun e => n01 e.symm))) (fun q a1 a2 => by rw [hne q a1, e1]; exact q3 q a2)
    refine k (sw23 ad) H2 _ ls ⟨fun o => h1.1 _, fun hf o f => h1.2 hf _ _⟩ (by show ab_W (ab_cE x0) (sw23 ad) (ab_G (ab_cM x0)) _ H2; rw [eG]; exact W2) (by show ab_ia (sw23 ad) (ab_G (ab_cM x0)) (ab_cA x0); rw [eG]; exact sw23_ia h3) (hS1.put hz hne (h3.2 _ _ (ab_sl0 (ci := 8) rfl))) h5 (fun v hv => by cases hv) h7 h8 h9
  obtain ⟨t2, a1, b1⟩ := kk T' rfl X'
  exact ⟨t2, st t2 a1, b1⟩
