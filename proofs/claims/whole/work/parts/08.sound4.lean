/-! SOUNDNESS, fourth part: fields and arrays -/
theorem ab_beq {a b : Nat} (h : Nat.beq a b = true) : a = b := Nat.eq_of_beq_eq_true h
theorem ab_sl0 {G : List Nat} {o ci : Nat} (h : ab_at G o = some ci) : ab_sl G o 0 := ⟨ci, h⟩
theorem ab_slf {G : List Nat} {o ci f : Nat} (h : ab_at G o = some ci) (ha : ab_arr (ab_kd ci f)) : ab_sl G o (f + 1) := ⟨ci, h, ha⟩
/-- one cell of the world has changed -/
theorem ab_W_upd {E : ab_E} {ad : Nat → Nat → Nat} {G : List Nat} {ws : List ab_Ob} {H H' : Heap} {A : Nat → Prop} {o ci f0 : Nat} {ob' : ab_Ob} (hW : ab_W E ad G ws H) (hI : ab_ia ad G A) (hG : ab_at G o = some ci) (hf : ab_sl G o f0) (hne : ∀ q, q ≠ ad o f0 → H'[q]? = H[q]?) (hnew : ab_ob E ad o ci ob' H') : ab_W E ad G (ab_set ws o ob') H' := by
  refine ⟨by rw [ab_set_len]; exact hW.1, fun o1 c1 b1 h1 h2 => ?_⟩
  by_cases ho : o = o1
  · subst ho
    rw [ab_at_set_eq (by have := ab_at_lt h2; rw [ab_set_len] at this; exact this)] at h2
    cases h2
    cases hG.symm.trans h1
    exact hnew
  · rw [ab_at_set_ne ho] at h2
    obtain ⟨q1, q2, q3⟩ := hW.2 o1 c1 b1 h1 h2
    have key : ∀ f1, ab_sl G o1 f1 → H'[ad o1 f1]? = H[ad o1 f1]? := fun f1 hs => hne _ (fun e => ho (hI.1 _ _ _ _ hs hf e).1.symm)
    exact ⟨q1.kept (key 0 (ab_sl0 h1)), fun f ha => by rw [key _ (ab_slf h1 ha)]; exact q2 f ha, q3⟩
section
variable {x : ab_Cx} {pc : Nat} {lv : List (Option ab_V)} {st : List ab_V} {ws : List ab_Ob} {kc ks : Nat}
theorem ab_r_getf (X : ab_X x) {i a f o : Nat} (ha : a < 10) (hf : f < (ab_lay a).length) (hw : .fieldLink (ab_nm (ab_cM x)).cls i (ab_T a f).1 (ab_T a f).2.1 (ab_T a f).2.2.1 ∈ ab_gw) (hd : ab_dec x pc (.getfield i) 3) (k : ab_getf (ab_G (ab_cM x)) ws o a f fun v => ab_J x (pc + 3) lv (v :: st) ws kc ks) : ab_J x pc lv (ab_O o :: st) ws kc ks := by
  unfold ab_getf at k
  split at k
  · rename_i ci ob hG hob
    cases hb : Nat.beq ci a with
    | false => rw [hb] at k; exact k.elim
    | true =>
      rw [hb] at k
      dsimp only at k
      have e := ab_beq hb
      subst e
      intro ad H locs ls h1 h2 h3 h4 h5 h6 h7 h8 h9
      obtain ⟨⟨cell, q1, q2, q3, q4⟩, q5, q6⟩ := h2.2 o ci ob hG hob
      obtain ⟨hS, hfc, kC, hkC, hkind⟩ := X.K.1.1 ci _ (ab_cls ha)
      obtain ⟨cf, kf, fi, fd, hi, hsl⟩ := hS f hf
      have go : ∀ v : Value, cell.slots[fd.slot]? = some v → ab_Wx x H locs kc ks (F0 (ab_cm x) (pc + 3) ls (v :: st.map (ab_cv ad (ab_cE x).2.2.1))) → ab_Wx x H locs kc ks (F0 (ab_cm x) pc ls (.ref (ad o 0) :: st.map (ab_cv ad (ab_cE x).2.2.1))) := fun v hv kk =>
        W.getf X.ex X.cd X.own (X.ts _ hw) hi (u_facts hfc hkC (u_lays X.ts (ab_inl ha) hf) hi).1 q1 (by rw [q3]; exact fun h => by cases h) (v := v) hv rfl rfl hd kk
      have hv : cell.slots[((ab_cE x).1.2 ci) f]? = some (ab_fv ad o ob f (ab_kd ci f)) := q4 f hf
      rw [← hsl] at hv
      have ok := (q6 f).1
      show ab_Wx x H locs kc ks (F0 (ab_cm x) pc ls (.ref (ad o 0) :: st.map (ab_cv ad (ab_cE x).2.2.1)))
      revert k hv ok
      generalize ab_kd ci f = kd
      intro k hv ok
      match kd, k, hv, ok with
      | 0, k, hv, ok => exact go _ hv (k ad H locs ls h1 h2 h3 h4 h5 (ab_okc (v := .inl (ob.1 f)) (ok (by unfold ab_arr; omega) (by omega)) (ab_okt h6)) h7 h8 h9)
      | 1, k, hv, ok => exact go _ hv (k ad H locs ls h1 h2 h3 h4 h5 (ab_okc (v := .inl (ob.1 f)) (by have h0 : ob.1 f = 0 ∨ ob.1 f = 1 := ok (by unfold ab_arr; omega) (by omega); exact ⟨by omega, by omega⟩) (ab_okt h6)) h7 h8 h9)
      | 2, k, hv, ok => exact go _ hv (k ad H locs ls h1 h2 h3 h4 h5 (ab_okc (v := .inr (.inl (ob.1 f))) (ok (by unfold ab_arr; omega) (by omega)) (ab_okt h6)) h7 h8 h9)
      | 3, k, hv, ok => exact go _ hv (k ad H locs ls h1 h2 h3 h4 h5 (ab_okc (v := ab_A o f) trivial (ab_okt h6)) h7 h8 h9)
      | 4, k, hv, ok => exact go _ hv (k ad H locs ls h1 h2 h3 h4 h5 (ab_okc (v := ab_A o f) trivial (ab_okt h6)) h7 h8 h9)
      | 5, k, hv, ok => exact go _ hv (k ad H locs ls h1 h2 h3 h4 h5 (ab_okc (v := ab_A o f) trivial (ab_okt h6)) h7 h8 h9)
      | 6, k, hv, ok => exact go _ hv (k ad H locs ls h1 h2 h3 h4 h5 (ab_okc (v := ab_A o f) trivial (ab_okt h6)) h7 h8 h9)
      | j + 7, k, hv, ok => exact go _ hv (k ad H locs ls h1 h2 h3 h4 h5 (ab_okc (v := ab_O (o + j)) trivial (ab_okt h6)) h7 h8 h9)
  · exact k.elim
/-- what a world is when one number of an object has changed -/
theorem ab_ob_pf {E : ab_E} {ad : Nat → Nat → Nat} {G : List Nat} {A : Nat → Prop} {H H' : Heap} {o ci f : Nat} {ob : ab_Ob} {z : Int} {v : Value} {cell : Cell} (hI : ab_ia ad G A) (hG : ab_at G o = some ci) (h0 : ab_ob E ad o ci ob H) (hf : f < (ab_lay ci).length) (hap : ∀ a b, a < (ab_lay ci).length → b < (ab_lay ci).length → a ≠ b → (E.1.2 ci) a ≠ (E.1.2 ci) b)
    (hc : H[ad o 0]? = some cell) (e1 : H'[ad o 0]? = some (cell.setSlot ((E.1.2 ci) f) v)) (e3 : ∀ q, q ≠ ad o 0 → H'[q]? = H[q]?) (hk : ab_kd ci f ≤ 2) (hv : ab_fv ad o (ab_pf ob f z) f (ab_kd ci f) = v) (hok : ab_okk (ab_kd ci f) z) : ab_ob E ad o ci (ab_pf ob f z) H' := by
  obtain ⟨⟨cell', q1, q2, q3, q4⟩, q5, q6⟩ := h0
  cases hc.symm.trans q1
  refine ⟨⟨_, e1, q2, q3, fun j hj => ?_⟩, fun g ha => ?_, fun g => ⟨fun hn hl => ?_, fun ha => (q6 g).2 ha⟩⟩
  · rw [t_set q4 hap hf v j hj]
    congr 1
    by_cases hjf : j = f
    · subst hjf
      simp only [updV, if_true]
      exact hv.symm
    · simp only [updV, if_neg hjf]
      have : ab_fv ad o ob j (ab_kd ci j) = ab_fv ad o (ab_pf ob f z) j (ab_kd ci j) := by
        generalize ab_kd ci j = kd
        have e : (ab_pf ob f z).1 j = ob.1 j := by simp [ab_pf, ab_up, hjf]
        match kd with
        | 0 => simp [ab_fv, e]
        | 1 => simp [ab_fv, e]
        | 2 => simp [ab_fv, e]
        | 3 => rfl
        | 4 => rfl
        | 5 => rfl
        | 6 => rfl
        | k + 7 => rfl
      exact this
  · rw [e3 _ (fun e => by have := (hI.1 _ _ _ _ (ab_slf hG ha) (ab_sl0 hG) e).2; omega)]
    exact q5 g ha
  · by_cases hgf : g = f
    · subst hgf
      have e : (ab_pf ob g z).1 g = z := by simp [ab_pf, ab_up]
      rw [e]; exact hok
    · have e : (ab_pf ob f z).1 g = ob.1 g := by simp [ab_pf, ab_up, hgf]
      rw [e]; exact (q6 g).1 hn hl
theorem ab_r_putf (X : ab_X x) {i a f o : Nat} {v : ab_V} (ha : a < 10) (hf : f < (ab_lay a).length) (hw : .fieldLink (ab_nm (ab_cM x)).cls i (ab_T a f).1 (ab_T a f).2.1 (ab_T a f).2.2.1 ∈ ab_gw) (hd : ab_dec x pc (.putfield i) 3) (k : ab_putf (ab_G (ab_cM x)) ws o a f v fun ws' => ab_J x (pc + 3) lv st ws' kc ks) : ab_J x pc lv (v :: ab_O o :: st) ws kc ks := by
  unfold ab_putf at k
  simp only [ab_frc_eq] at k
  split at k
  · rename_i ci ob hG hob
    cases hb : Nat.beq ci a with
    | false => rw [hb] at k; exact k.elim
    | true =>
      rw [hb] at k
      dsimp only at k
      have e := ab_beq hb
      subst e
      intro ad H locs ls h1 h2 h3 h4 h5 h6 h7 h8 h9
      have h0 := h2.2 o ci ob hG hob
      obtain ⟨⟨cell, q1, q2, q3, q4⟩, q5, q6⟩ := id h0
      have hc := X.K.1.1 ci _ (ab_cls ha)
      obtain ⟨hS, hfc, kC, hkC, hkind⟩ := hc
      obtain ⟨cf, kf, fi, fd, hi, hsl⟩ := hS f hf
      have hap := va_apart (own := "") X.ts (ab_inl ha) (ab_ty ci) (ab_tyok ha) (ab_nms ha) X.K.1 (ab_cls ha)
      have hkt := ab_kty ha f hf
      have h6v := h6 v List.mem_cons_self
      have h6' := ab_okt (ab_okt h6)
      have hst := (u_facts hfc hkC (u_lays X.ts (ab_inl ha) hf) hi).1
      have go : ∀ (z : Int) (w : Value) (ty : FieldType), ab_kd ci f ≤ 2 → ab_ty ci f = ty → (ab_T ci f).2.2.2 = false → ab_fv ad o (ab_pf ob f z) f (ab_kd ci f) = w → ab_okk (ab_kd ci f) z → narrow ty w = w → fits ty w = true → ab_J x (pc + 3) lv st (ab_set ws o (ab_pf ob f z)) kc ks → ab_Wx x H locs kc ks (F0 (ab_cm x) pc ls (w :: .ref (ad o 0) :: st.map (ab_cv ad (ab_cE x).2.2.1))) := by
        intro z w ty g1 g2 g3 g4 g5 g6 g7 kk
        have hlay := X.ts _ (ab_inl ha _ (u_in_lay hf))
        unfold u_lay at hlay
        rw [if_neg (by rw [g3]; decide)] at hlay
        have h6s := u_store hfc hkC hkind hlay hi (by rw [ab_tyok ha f hf, g2]) g6 g7
        refine W.putK X.ex X.cd (f := fd) ⟨X.own, X.ts _ hw, ⟨_, _, _, hi⟩, hst⟩ (by rw [q2]; exact h6s) q1 q3 (by rw [hsl]; exact k2_hasslot (q4 f hf)) rfl rfl hd fun H' e1 e2 e3 => ?_
        rw [hsl] at e1
        exact kk ad H' _ ls h1 (ab_W_upd h2 h3 hG (ab_sl0 hG) e3 (ab_ob_pf h3 hG h0 hf hap q1 e1 e3 g1 g4 g5)) h3 (h4.put e2 e3 (h3.2 _ _ (ab_sl0 hG))) h5 h6' h7 h8 h9
      show ab_Wx x H locs kc ks (F0 (ab_cm x) pc ls (ab_cv ad (ab_cE x).2.2.1 v :: .ref (ad o 0) :: st.map (ab_cv ad (ab_cE x).2.2.1)))
      have eu : ∀ z : Int, (ab_pf ob f z).1 f = z := fun z => by simp [ab_pf, ab_up]
      split at k
      · rename_i z hk0
        exact go z _ .int (by omega) (hkt.1 hk0).1 (hkt.1 hk0).2 (by rw [hk0]; simp [ab_fv, eu, ab_cv]) (by rw [hk0]; exact h6v) rfl rfl k
      · rename_i z hk0
        have hz : narrow .boolean (ab_cv ad (ab_cE x).2.2.1 (.inl z)) = ab_cv ad (ab_cE x).2.2.1 (.inl z) ∧ fits .boolean (ab_cv ad (ab_cE x).2.2.1 (.inl z)) = true := by
          rcases k.1 with rfl | rfl
          · exact ⟨(by decide : narrow .boolean (.int (Int32.ofInt 0)) = .int (Int32.ofInt 0)), (by decide : fits .boolean (.int (Int32.ofInt 0)) = true)⟩
          · exact ⟨(by decide : narrow .boolean (.int (Int32.ofInt 1)) = .int (Int32.ofInt 1)), (by decide : fits .boolean (.int (Int32.ofInt 1)) = true)⟩
        exact go z _ .boolean (by omega) (hkt.2.1 hk0).1 (hkt.2.1 hk0).2 (by rw [hk0]; simp [ab_fv, eu, ab_cv]) (by rw [hk0]; exact k.1) hz.1 hz.2 k.2
      · rename_i z hk0
        exact go z _ .long (by omega) (hkt.2.2.1 hk0).1 (hkt.2.2.1 hk0).2 (by rw [hk0]; simp [ab_fv, eu, ab_cv]) (by rw [hk0]; exact h6v) rfl rfl k
      · exact k.elim
  · exact k.elim
end
