/-! SOUNDNESS: many steps, contracts -/
theorem ab_J_mask {x : ab_Cx} {pc : Nat} {bs : List Bool} {lv : List (Option ab_V)} {st : List ab_V} {ws : List ab_Ob} {kc ks : Nat} (k : ab_J x pc (ab_mask bs lv) st ws kc ks) : ab_J x pc lv st ws kc ks := by
  intro ad H locs ls h1 h2 h3 h4 h5 h6 h7 h8 h9
  refine k ad H locs ls h1 h2 h3 h4 (ab_lc_le h5 fun j v hj => ab_lc_mem.mpr ⟨j, v, ab_mask_at hj, by simp⟩) h6 (fun v hv => ?_) (by rw [ab_mask_len]; exact h8) h9
  obtain ⟨j, hj⟩ := ab_mem_at hv
  exact h7 v (ab_at_mem (ab_mask_at hj))
theorem ab_wp_ok {x : ab_Cx} {Post : Option ab_V → List ab_Ob → Prop} {rows : List ab_R} (X : ab_X x) (XQ : ab_XQ x Post) (hrows : ab_okS (ab_cM x) rows) (stops : List (Nat × List Bool)) :
    ∀ (n : Nat) (rs : List ab_R) (lv : List (Option ab_V)) (st : List ab_V) (ws : List ab_Ob) (kc ks : Nat), ab_okS (ab_cM x) rs → ab_wp (ab_G (ab_cM x)) rows stops (ab_cd' x) (ab_cc x) (ab_ck x) (ab_mv (ab_cM x)) (ab_rt (ab_cM x)) (ab_J x) Post n rs lv st ws kc ks → ∃ r' rs'', rs = r' :: rs'' ∧ ab_J x r'.1 lv st ws kc ks := by
  intro n
  induction n with
  | zero => intro rs lv st ws kc ks _ h; exact h.elim
  | succ n ih =>
    intro rs lv st ws kc ks hrs h
    cases rs with
    | nil => exact h.elim
    | cons r rs =>
      refine ⟨r, rs, rfl, ab_step_ok X XQ hrows hrs ?_ h⟩
      intro rs' lv st ws kc ks hrs' h
      unfold ab_nx at h
      cases rs' with
      | nil => exact h.elim
      | cons r' rs' =>
        dsimp only at h
        split at h
        · exact ⟨r', rs', rfl, ab_J_mask h⟩
        · exact ih _ _ _ _ _ _ hrs' h
/-- a running method: which, how deep, its room, what it promises -/
def ab_At (x : ab_Cx) (M : ab_M) (d mc ms : Nat) (Post : Option ab_V → List ab_Ob → Prop) : Prop :=
  (ab_cM x = M ∧ ab_cd' x = d ∧ ab_cc x = mc ∧ ab_ck x = ms) ∧ ab_X x ∧ ab_XQ x Post
/-- from the condition to the machine -/
theorem ab_go {x : ab_Cx} {M : ab_M} {d mc ms : Nat} {Post : Option ab_V → List ab_Ob → Prop} (hx : ab_At x M d mc ms Post) {rows : List ab_R} (hrows : ab_okS M rows) (n : Nat) (stops : List (Nat × List Bool)) (pc : Nat) {lv : List (Option ab_V)} {st : List ab_V} {ws : List ab_Ob} {kc ks : Nat}
    (h : ab_wp (ab_G M) rows stops d mc ms (ab_mv M) (ab_rt M) (ab_J x) Post n (ab_seek rows pc) lv st ws kc ks) : ab_J x pc lv st ws kc ks := by
  obtain ⟨⟨rfl, rfl, rfl, rfl⟩, X, XQ⟩ := hx
  obtain ⟨h1, h2⟩ := ab_okS_seek hrows pc
  obtain ⟨r, rs, e, hj⟩ := ab_wp_ok X XQ hrows stops n _ _ _ _ _ _ h1 h
  rw [h2 r rs e] at hj
  exact hj
/-- the locals at a method's entry -/
def ab_ent (as : List ab_V) (n : Nat) : List (Option ab_V) := as.map some ++ List.replicate (n - as.length) none
theorem ab_ent_at {as : List ab_V} {n j : Nat} {v : ab_V} (h : ab_at (ab_ent as n) j = some (some v)) : ab_at as j = some v := by
  rw [ab_at_eq] at h ⊢
  unfold ab_ent at h
  by_cases hj : j < as.length
  · rw [List.getElem?_append_left (by simpa using hj)] at h
    simpa using h
  · rw [List.getElem?_append_right (by simpa using hj)] at h
    simp [List.getElem?_replicate] at h
theorem ab_args_at {as : List ab_V} {ad : Nat → Nat → Nat} {ak : Nat → Nat} (h1 : ∀ v ∈ as, ab_cat v = 1) {j n : Nat} {v : ab_V} (hj : ab_at as j = some v) : (n + j, ab_cv ad ak v) ∈ lv_args n (as.map (ab_cv ad ak)) := by
  induction as generalizing j n with
  | nil => simp [ab_at] at hj
  | cons w as ih =>
    have hw : (ab_cv ad ak w).category = 1 := by rw [ab_cv_cat]; exact h1 w List.mem_cons_self
    cases j with
    | zero =>
      simp only [ab_at, Option.some.injEq] at hj
      subst hj
      simp [lv_args]
    | succ j =>
      simp only [List.map_cons, lv_args, hw]
      refine List.mem_cons_of_mem _ ?_
      have := ih (fun v hv => h1 v (List.mem_cons_of_mem _ hv)) (n := n + 1) (j := j) hj
      rw [show n + (j + 1) = n + 1 + j by omega]
      exact this
theorem ab_sl_len {as : List ab_V} {ad : Nat → Nat → Nat} {ak : Nat → Nat} (h1 : ∀ v ∈ as, ab_cat v = 1) : (lg_sl (as.map (ab_cv ad ak))).length = as.length := by
  induction as with
  | nil => rfl
  | cons w as ih =>
    have hw : (ab_cv ad ak w).category = 1 := by rw [ab_cv_cat]; exact h1 w List.mem_cons_self
    have := ih (fun v hv => h1 v (List.mem_cons_of_mem _ hv))
    simp [lg_sl, hw] at this ⊢
    first | exact this | omega
theorem ab_rg_in {G : List Nat} {ad : Nat → Nat → Nat} {sz o f : Nat} (h : ab_sl G o f) : ab_rg G ad sz (ad o f) := Or.inl ⟨o, f, h, rfl⟩
/-- A CONTRACT out of a walk -/
theorem ab_intro {M : ab_M} {d mc ms : Nat} {as : List ab_V} {ws : List ab_Ob} {Post : Option ab_V → List ab_Ob → Prop} (hm : ab_mok M) (hpl : plainName (ab_nm M).cls = true) (h1 : ∀ v ∈ as, ab_cat v = 1) (hl : as.length ≤ ab_ml M) (h : ∀ x : ab_Cx, ab_At x M d mc ms Post → ab_J x 0 (ab_ent as (ab_ml M)) [] ws 0 0) : ab_WC (d + 1) mc ms M as ws Post := by
  refine ⟨hm, fun l E ad sz hok => ?_⟩
  refine Met.ofW (cc := ab_cd M) (maxL := ab_ml M) (ret := ab_rt M) hpl rfl ?_
  intro p e s m args below meth c s₁ B hml hv
  obtain ⟨rfl, hsz, hW, hI, hK⟩ := hv
  subst hsz
  have hts : ∀ w ∈ ab_ws M, w.before (as.map (ab_cv ad E.2.2.1)).toArray s = true := atoms_spec (ws := ab_ws M) B.pre
  obtain ⟨x, hxe⟩ : ∃ x : ab_Cx, x = ((p, l, e, ab_rm (d + 1) mc ms, s, m, (as.map (ab_cv ad E.2.2.1)).toArray), (below, meth, c, MQ below (ab_Q E ad s.heap.size M Post) (as.map (ab_cv ad E.2.2.1)).toArray s mc ms (ab_rg (ab_G M) ad s.heap.size)), (E, ad, M, ab_rg (ab_G M) ad s.heap.size, d, mc, ms)) := ⟨_, rfl⟩
  have hx : ab_At x M d mc ms Post := by
    subst hxe
    refine ⟨⟨rfl, rfl, rfl, rfl⟩, ⟨B.exec, B.bytes, hml, findClass_of_methodNamed B.named, fun w hw => hts w (List.mem_cons_of_mem _ hw), B.returns, B.notSynchronized, hK, fun q hq => Or.inr hq, rfl⟩, fun _ h => h, rfl⟩
  have hj := h x hx
  subst hxe
  have hl0 := lv_entry (as.map (ab_cv ad E.2.2.1)) (n := ab_ml M) (by rw [ab_sl_len h1]; exact hl)
  rw [lg_entry_eq]
  generalize (lg_sl (as.map (ab_cv ad E.2.2.1)) ++ List.replicate (ab_ml M - (lg_sl (as.map (ab_cv ad E.2.2.1))).length) Slot.unset).toArray = ls at hl0 ⊢
  refine hj ad s.heap [] ls ⟨fun _ => rfl, fun _ _ _ => rfl⟩ hW ⟨hI.1, fun o f hs => ab_rg_in hs⟩ va_S.rf (ab_lc_le hl0 fun j v hj' => ?_) (fun v hv => by cases hv) (fun v hv => ?_) ?_ ⟨Nat.zero_le _, Nat.zero_le _⟩
  · have := ab_args_at (ad := ad) (ak := E.2.2.1) h1 (n := 0) (ab_ent_at hj')
    simpa using this
  · obtain ⟨j, hj'⟩ := ab_mem_at hv
    exact hok v (ab_at_mem (ab_ent_at hj'))
  · show (as.map some ++ List.replicate (ab_ml M - as.length) none).length = ab_ml M
    simp
    omega
def ab_mokB (M : ab_M) (p1 p2 p3 p4 : Nat) : Bool :=
  ab_lk (.code (ab_nm M) (ab_cd M) (ab_ml M) (ab_rt M)) p1 && (ab_lk (.initialized (ab_nm M).cls) p2 && (decide ((ab_nm M).cls ≠ "java/lang/invoke/MethodHandle" ∧ (ab_nm M).cls ≠ "java/lang/invoke/VarHandle" ∧ (parseMethodDescriptor (ab_nm M).desc).map (fun d => d.parameters.length) = some (ab_na M)) && (decide (ab_ml M ≤ 18) && (plainName (ab_nm M).cls &&
  (if ab_st M = true then ab_lk (.static (ab_nm M)) p3 else ab_lk (.instanceMethod (ab_nm M)) p3 && (ab_lk (.selects (ab_nm M).cls (ab_nm M) (ab_nm M)) p4 && (decide ((vwCl[ab_ci M]?).map (fun q => q.1) = some (ab_nm M).cls) || (decide (ab_ci M = 100) && decide ((ab_nm M).cls = "java/lang/String")))))))))
theorem ab_mok_of {M : ab_M} (p1 p2 p3 p4 : Nat) (h : ab_mokB M p1 p2 p3 p4 = true) : ab_mok M ∧ plainName (ab_nm M).cls = true := by
  unfold ab_mokB at h
  simp only [Bool.and_eq_true, decide_eq_true_eq] at h
  obtain ⟨h1, h2, h3, h4, h5, h6⟩ := h
  refine ⟨⟨ab_lk_in h1, ab_lk_in h2, h3, h4, ?_⟩, h5⟩
  by_cases hs : ab_st M = true
  · rw [if_pos hs] at h6 ⊢
    exact ab_lk_in h6
  · rw [if_neg hs] at h6 ⊢
    simp only [Bool.and_eq_true, Bool.or_eq_true, decide_eq_true_eq] at h6
    refine ⟨ab_lk_in h6.1, ab_lk_in h6.2.1, ?_⟩
    rcases h6.2.2 with h | h
    · left
      cases hv : vwCl[ab_ci M]? with
      | none => rw [hv] at h; cases h
      | some q =>
        rw [hv] at h
        simp only [Option.map_some, Option.some.injEq] at h
        exact ⟨q.2.1, q.2.2, by rw [← h]⟩
    · exact Or.inr h
/-- what a method is: its row of the table, its code -/
def ab_def_ok (M : ab_M) (rows : List ab_R) : Prop := (ab_mok M ∧ plainName (ab_nm M).cls = true) ∧ ab_okS M rows
/-- a contract out of a walk -/
theorem ab_ct {M : ab_M} {rows : List ab_R} (hD : ab_def_ok M rows) {d mc ms : Nat} {as : List ab_V} {ws : List ab_Ob} {Q : Option ab_V → List ab_Ob → Prop} (h1 : (as.all fun v => Nat.beq (ab_cat v) 1) = true) (hl : Nat.ble as.length (ab_ml M) = true) (h : ∀ x : ab_Cx, ab_At x M d mc ms (fun r w => (ab_shr (ab_rt M) (ab_rp M) r ∧ ab_shw (ab_wr M) ws w) ∧ Q r w) → ab_J x 0 (ab_ent as (ab_ml M)) [] ws 0 0) : ab_Ct (d + 1) mc ms M as ws Q :=
  ab_intro hD.1.1 hD.1.2 (fun v hv => ab_beq (List.all_eq_true.mp h1 v hv)) (Nat.le_of_ble_eq_true hl) h
/-- uses of contracts: an answer that is one number -/
theorem ab_x1 {d mc ms : Nat} {M : ab_M} {as : List ab_V} {ws W : List ab_Ob} {R : Int} {K : Int → Prop} (h : ab_Ct d mc ms M as ws (fun rv w => rv = some (ab_I R) ∧ w = W)) (k : K R) : ∃ Q : Option ab_V → List ab_Ob → Prop, ab_Ct d mc ms M as ws Q ∧ ∀ r : Int, Q (some (ab_I r)) W → K r :=
  ⟨_, h, fun r hr => by cases hr.1; exact k⟩
theorem ab_xl {d mc ms : Nat} {M : ab_M} {as : List ab_V} {ws W : List ab_Ob} {R : Int} {K : Int → Prop} (h : ab_Ct d mc ms M as ws (fun rv w => rv = some (ab_L R) ∧ w = W)) (k : K R) : ∃ Q : Option ab_V → List ab_Ob → Prop, ab_Ct d mc ms M as ws Q ∧ ∀ r : Int, Q (some (ab_L r)) W → K r :=
  ⟨_, h, fun r hr => by cases hr.1; exact k⟩
/-- an answer that is so -/
theorem ab_xq {d mc ms : Nat} {M : ab_M} {as : List ab_V} {ws : List ab_Ob} {Q : Option ab_V → List ab_Ob → Prop} {K : Prop} (h : ab_Ct d mc ms M as ws Q) (k : K) : ∃ Q : Option ab_V → List ab_Ob → Prop, ab_Ct d mc ms M as ws Q ∧ K := ⟨Q, h, k⟩
