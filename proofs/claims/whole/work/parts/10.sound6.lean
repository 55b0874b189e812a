/-! SOUNDNESS, sixth part: new arrays, switches, Math, answers -/
theorem ab_cv_na {ad ad' : Nat → Nat → Nat} {ak : Nat → Nat} (h : ∀ o, ad' o 0 = ad o 0) {v : ab_V} (hv : ab_na0 v = true) : ab_cv ad' ak v = ab_cv ad ak v := by
  rcases v with z | z | o | q | n
  · rfl
  · rfl
  · simp [ab_cv, h]
  · cases hv
  · rfl
theorem ab_nas_mem {l : List ab_V} (h : ab_nas l = true) {v : ab_V} (hv : v ∈ l) : ab_na0 v = true := by
  induction l with
  | nil => cases hv
  | cons w l ih =>
    simp only [ab_nas, Bool.and_eq_true] at h
    rcases List.mem_cons.mp hv with rfl | hv
    · exact h.1
    · exact ih h.2 hv
theorem ab_nal_mem {l : List (Option ab_V)} (h : ab_nal l = true) {v : ab_V} (hv : some v ∈ l) : ab_na0 v = true := by
  induction l with
  | nil => cases hv
  | cons w l ih =>
    cases w with
    | none =>
      rcases List.mem_cons.mp hv with h' | hv
      · cases h'
      · exact ih h hv
    | some u =>
      simp only [ab_nal, Bool.and_eq_true] at h
      rcases List.mem_cons.mp hv with h' | hv
      · cases h'; exact h.1
      · exact ih h.2 hv
theorem ab_map_na {ad ad' : Nat → Nat → Nat} {ak : Nat → Nat} (h : ∀ o, ad' o 0 = ad o 0) {l : List ab_V} (hl : ab_nas l = true) : l.map (ab_cv ad' ak) = l.map (ab_cv ad ak) :=
  List.map_congr_left fun _ hv => ab_cv_na h (ab_nas_mem hl hv)
theorem ab_lc_na {ad ad' : Nat → Nat → Nat} {ak : Nat → Nat} (h : ∀ o, ad' o 0 = ad o 0) {lv : List (Option ab_V)} (hl : ab_nal lv = true) {ls : Array Slot} {nL : Nat} (h5 : lv_has ls nL (ab_lc ad ak 0 lv)) : lv_has ls nL (ab_lc ad' ak 0 lv) := by
  refine ab_lc_le h5 fun j v hj => ?_
  rw [ab_cv_na h (ab_nal_mem hl (ab_at_mem hj))]
  exact ab_lc_mem.mpr ⟨j, v, hj, by simp⟩
theorem ab_def (k : Nat) (hk : ab_arr k) : defaultValue (ab_kt k) = ab_el k 0 := by
  obtain ⟨h1, h2⟩ := hk
  have : k = 3 ∨ k = 4 ∨ k = 5 ∨ k = 6 := by omega
  rcases this with rfl | rfl | rfl | rfl <;> rfl
section
variable {x : ab_Cx} {pc : Nat} {lv : List (Option ab_V)} {st : List ab_V} {ws : List ab_Ob} {kc ks : Nat}
theorem ab_r_newa (X : ab_X x) {i a f o : Nat} {n : Int} {ty : ArrayType} (ha : a < 10) (hf : f < (ab_lay a).length) (hfin : (ab_T a f).2.2.2 = false) (hw : .fieldLink (ab_nm (ab_cM x)).cls i (ab_T a f).1 (ab_T a f).2.1 (ab_T a f).2.2.1 ∈ ab_gw) (hty : newarray.typeOf ty = ab_kt (ab_atk ty)) (htk : ab_atk ty = 3 ∨ ab_atk ty = 5 ∨ ab_atk ty = 6) (hac : .arrayClass (newarray.typeOf ty) ∈ ab_gw)
    (hd : ab_dec x pc (.newarray ty) 2) (hd2 : ab_dec x (pc + 2) (.putfield i) 3) (hmv : ab_mv (ab_cM x) = true) (hns : ab_nas st = true) (hnl : ab_nal lv = true) (hn : 0 ≤ n ∧ n ≤ 100000) (hr : kc + 1 ≤ ab_cc x ∧ ks + n.toNat ≤ ab_ck x)
    (k : ab_newf (ab_G (ab_cM x)) ws o a f n (ab_isN (ab_atk ty)) fun ws' => ab_J x (pc + 5) lv st ws' (kc + 1) (ks + n.toNat)) : ab_J x pc lv (.inl n :: ab_O o :: st) ws kc ks := by
  unfold ab_newf at k
  simp only [ab_frc_eq] at k
  split at k
  · rename_i ci ob hG hob
    split at k
    · rename_i hb
      obtain ⟨hb1, hb2⟩ := (Bool.and_eq_true _ _).mp hb
      have e := ab_beq hb1
      subst e
      have hkd : ab_kd ci f = ab_atk ty := ab_beq hb2
      have har : ab_arr (ab_kd ci f) := by rw [hkd]; rcases htk with h | h | h <;> rw [h] <;> exact ⟨by omega, by omega⟩
      intro ad H locs ls h1 h2 h3 h4 h5 h6 h7 h8 h9
      have h0 := h2.2 o ci ob hG hob
      obtain ⟨⟨cell, q1, q2, q3, q4⟩, q5, q6⟩ := id h0
      have hnn : ab_okk 0 n := h6 _ List.mem_cons_self
      have hR := X.R
      refine va_newaK X.ex X.cd (atype := ty) (X.ts _ hac) rfl hd rfl (N := n.toNat) (by rw [← ab_of0, ab_lt32 hnn ab_ok0]; omega) (ab_cl32 hnn) (by
        have hcb : componentBytes (newarray.typeOf ty) ≤ 8 := by rw [hty]; rcases htk with h | h | h <;> rw [h] <;> decide
        calc n.toNat * componentBytes (newarray.typeOf ty) ≤ 100000 * 8 := Nat.mul_le_mul (by omega) hcb
          _ ≤ 536870912 := by decide) (by rw [hR]; exact hr.1) (by rw [hR]; exact hr.2) rfl fun H1 cA e1 z1 o1 hAr hNm => ?_
      have hlt : ∀ q cl, H[q]? = some cl → q < H.size := fun q cl h => (Array.getElem?_eq_some_iff.mp h).1
      have hcA : cA = (ab_cE x).2.1 (ab_kd ci f) := by
        have hRA := (ab_Karr X.K.1 har).2
        rw [hkd, ← hty] at hRA
        rw [hkd]
        have : (ab_cs x).vm.findClass ("[" ++ (newarray.typeOf ty).toString) = some ((ab_cE x).2.1 (ab_atk ty)) := by
          revert hRA
          cases ty <;> exact fun h => h
        exact Option.some.inj (hNm.symm.trans this)
      have hc := X.K.1.1 ci _ (ab_cls ha)
      obtain ⟨hS, hfc, kC, hkC, hkind⟩ := hc
      obtain ⟨cf, kf, fi, fd, hi, hsl⟩ := hS f hf
      have hap := va_apart (own := "") X.ts (ab_inl ha) (ab_ty ci) (ab_tyok ha) (ab_nms ha) X.K.1 (ab_cls ha)
      have hkt := ab_kty ha f hf
      have hst := (u_facts hfc hkC (u_lays X.ts (ab_inl ha) hf) hi).1
      have hlay := X.ts _ (ab_inl ha _ (u_in_lay hf))
      unfold u_lay at hlay
      rw [if_neg (by rw [hfin]; decide)] at hlay
      have htf : ∃ t, ab_ty ci f = .array t := by
        rcases htk with h | h | h <;> rw [h] at hkd
        · exact ⟨_, hkt.2.2.2.1 hkd⟩
        · exact ⟨_, hkt.2.2.2.2.1 hkd⟩
        · exact ⟨_, hkt.2.2.2.2.2 hkd⟩
      obtain ⟨tA, htA⟩ := htf
      have h6s := u_store (v := .ref H.size) hfc hkC hkind hlay hi (by rw [ab_tyok ha f hf, htA]) rfl rfl
      have hq1 : H1[ad o 0]? = some cell := by rw [o1 _ (hlt _ _ q1)]; exact q1
      refine W.putK X.ex X.cd (f := fd) ⟨X.own, X.ts _ hw, ⟨_, _, _, hi⟩, hst⟩ (by rw [q2]; exact h6s) hq1 q3 (by rw [hsl]; exact k2_hasslot (q4 f hf)) rfl rfl hd2 fun H2 e2 z2 o2 => ?_
      rw [hsl] at e2
      -- the new addresses
      obtain ⟨ad', had⟩ : ∃ ad' : Nat → Nat → Nat, ∀ o' f', ad' o' f' = if o' = o ∧ f' = f + 1 then H.size else ad o' f' := ⟨_, fun _ _ => rfl⟩
      have ha0 : ∀ o', ad' o' 0 = ad o' 0 := fun o' => by rw [had, if_neg (by omega)]
      have hsz : ∀ o' f', ab_sl (ab_G (ab_cM x)) o' f' → ad o' f' < H.size := by
        intro o' f' hs
        match f', hs with
        | 0, ⟨c1, hc1⟩ =>
          have hl1 := ab_at_lt hc1
          rw [← h2.1] at hl1
          obtain ⟨b1, hb1⟩ : ∃ b1, ab_at ws o' = some b1 := ⟨ws[o'], by rw [ab_at_eq]; simp [hl1]⟩
          obtain ⟨⟨cl1, g1, _⟩, _⟩ := h2.2 o' c1 b1 hc1 hb1
          exact hlt _ _ g1
        | g + 1, ⟨c1, hc1, hg⟩ =>
          have hl1 := ab_at_lt hc1
          rw [← h2.1] at hl1
          obtain ⟨b1, hb1⟩ : ∃ b1, ab_at ws o' = some b1 := ⟨ws[o'], by rw [ab_at_eq]; simp [hl1]⟩
          exact hlt _ _ ((h2.2 o' c1 b1 hc1 hb1).2.1 g hg)
      have hkeep : ∀ q, q < H.size → q ≠ ad o 0 → H2[q]? = H[q]? := fun q hq hne => by rw [o2 q hne, o1 q hq]
      have hW' : ab_W (ab_cE x) ad' (ab_G (ab_cM x)) (ab_set ws o (ab_pn ob f n)) H2 := by
        refine ⟨by rw [ab_set_len]; exact h2.1, fun o1' c1 b1 g1 g2 => ?_⟩
        by_cases ho : o = o1'
        · subst ho
          rw [ab_at_set_eq (by have := ab_at_lt g2; rw [ab_set_len] at this; exact this)] at g2
          cases g2
          cases hG.symm.trans g1
          refine ⟨⟨cell.setSlot (((ab_cE x).1.2 ci) f) (.ref H.size), by rw [ha0]; exact e2, q2, q3, fun j hj => ?_⟩, fun g hg => ?_, fun g => ⟨fun hn' hl' => (q6 g).1 hn' hl', fun hg => ?_⟩⟩
          · rw [t_set q4 hap hf _ j hj]
            congr 1
            by_cases hjf : j = f
            · subst hjf
              simp only [updV, if_true]
              have : ∀ kd, ab_arr kd → ab_fv ad' o (ab_pn ob j n) j kd = .ref (ad' o (j + 1)) := by
                intro kd hkd'
                obtain ⟨u1, u2⟩ := hkd'
                have : kd = 3 ∨ kd = 4 ∨ kd = 5 ∨ kd = 6 := by omega
                rcases this with rfl | rfl | rfl | rfl <;> rfl
              rw [this _ har, had, if_pos ⟨rfl, rfl⟩]
            · simp only [updV, if_neg hjf]
              generalize ab_kd ci j = kd
              have ej : ad' o (j + 1) = ad o (j + 1) := by rw [had, if_neg (by omega)]
              match kd with
              | 0 => rfl
              | 1 => rfl
              | 2 => rfl
              | 3 => simp [ab_fv, ej]
              | 4 => simp [ab_fv, ej]
              | 5 => simp [ab_fv, ej]
              | 6 => simp [ab_fv, ej]
              | k + 7 => simp [ab_fv, ha0]
          · by_cases hgf : g = f
            · subst hgf
              have e : (ab_pn ob g n).2 g = (n, fun _ => 0) := by simp [ab_pn, ab_ua]
              rw [e, had, if_pos ⟨rfl, rfl⟩, o2 _ (Nat.ne_of_gt (hsz o 0 (ab_sl0 hG))), e1]
              unfold ab_ac
              rw [hcA, hty, ← hkd, ab_def _ har]
            · have e : (ab_pn ob f n).2 g = ob.2 g := by simp [ab_pn, ab_ua, hgf]
              rw [e, had, if_neg (by omega), hkeep _ (hsz o (g + 1) (ab_slf hG hg)) (fun h => by have := (h3.1 _ _ _ _ (ab_slf hG hg) (ab_sl0 hG) h).2; omega)]
              exact q5 g hg
          · by_cases hgf : g = f
            · subst hgf
              have e : (ab_pn ob g n).2 g = (n, fun _ => 0) := by simp [ab_pn, ab_ua]
              rw [e]
              refine ⟨hn.1, Int.le_trans hn.2 (by decide), fun _ => ?_⟩
              show ab_okk (ab_kd ci g) 0
              rw [hkd]
              rcases htk with h | h | h <;> rw [h]
              · exact ⟨by omega, by omega⟩
              · exact ⟨by omega, by omega⟩
              · exact Or.inl rfl
            · have e : (ab_pn ob f n).2 g = ob.2 g := by simp [ab_pn, ab_ua, hgf]
              rw [e]; exact (q6 g).2 hg
        · rw [ab_at_set_ne ho] at g2
          obtain ⟨r1, r2, r3⟩ := h2.2 o1' c1 b1 g1 g2
          have key : ∀ f1, ab_sl (ab_G (ab_cM x)) o1' f1 → H2[ad o1' f1]? = H[ad o1' f1]? := fun f1 hs => hkeep _ (hsz _ _ hs) (fun e => ho (h3.1 _ _ _ _ hs (ab_sl0 hG) e).1.symm)
          have had1 : ∀ f1, ad' o1' f1 = ad o1' f1 := fun f1 => by rw [had, if_neg (fun h => ho h.1.symm)]
          refine ⟨?_, fun g hg => by rw [had1, key _ (ab_slf g1 hg)]; exact r2 g hg, r3⟩
          rw [had1]
          refine (r1.kept (key 0 (ab_sl0 g1))).to fun j _ => ?_
          generalize ab_kd c1 j = kd
          match kd with
          | 0 => rfl
          | 1 => rfl
          | 2 => rfl
          | 3 => simp [ab_fv, had1]
          | 4 => simp [ab_fv, had1]
          | 5 => simp [ab_fv, had1]
          | 6 => simp [ab_fv, had1]
          | k + 7 => simp [ab_fv, ha0]
      have hI' : ab_ia ad' (ab_G (ab_cM x)) (ab_cA x) := by
        refine ⟨fun o1' f1 o2' f2 s1 s2 he => ?_, fun o1' f1 s1 => ?_⟩
        · rw [had, had] at he
          have t1 := hsz _ _ s1
          have t2 := hsz _ _ s2
          by_cases c1 : o1' = o ∧ f1 = f + 1
          · by_cases c2 : o2' = o ∧ f2 = f + 1
            · exact ⟨c1.1.trans c2.1.symm, c1.2.trans c2.2.symm⟩
            · rw [if_pos c1, if_neg c2] at he; omega
          · by_cases c2 : o2' = o ∧ f2 = f + 1
            · rw [if_neg c1, if_pos c2] at he; omega
            · rw [if_neg c1, if_neg c2] at he
              exact h3.1 _ _ _ _ s1 s2 he
        · rw [had]
          split
          · exact X.A _ h4.1
          · exact h3.2 _ _ s1
      have hrel : ab_rel (ab_mv (ab_cM x)) (ab_c0 x) ad' := ⟨fun o' => by rw [ha0]; exact h1.1 o', fun h => by rw [hmv] at h; cases h⟩
      have hS1 : va_S (ab_cA x) (ab_cs x).heap H1 locs := ⟨Nat.le_trans h4.1 (by omega), fun q g1 g2 => (o1 q (Nat.lt_of_lt_of_le g1 h4.1)).trans (h4.2.1 q g1 g2), h4.2.2⟩
      have kk := k ad' H2 (locs ++ [⟨ad o 0, ((ab_cE x).1.2 ci) f⟩]) ls hrel hW' hI' (hS1.put z2 o2 (h3.2 _ _ (ab_sl0 hG))) (ab_lc_na ha0 hnl h5) (ab_okt (ab_okt h6)) h7 h8 hr
      rw [ab_map_na ha0 hns] at kk
      rw [hsl]
      exact kk
    · exact k.elim
  · exact k.elim
theorem ab_sw_at {a hi : Int} : ∀ {ts : List Nat} {v : Int} {K : Nat → Prop} (i : Nat) {t : Nat}, ab_sw a hi v ts K → ts[i]? = some t → a = v + i → K t
  | [], _, _, _, _, _, h, _ => by simp at h
  | t0 :: ts, v, K, 0, t, hs, h, he => by
    simp only [List.getElem?_cons_zero, Option.some.injEq] at h
    subst h
    exact hs.1 (by simpa using he)
  | t0 :: ts, v, K, i + 1, t, hs, h, he => by
    simp only [List.getElem?_cons_succ] at h
    exact ab_sw_at (v := v + 1) i hs.2 h (by omega)
theorem ab_r_switch (X : ab_X x) {dflt lo hi a : Int} {offs : Array Int} {len t0 : Nat} {ts : List Nat} (hd : ab_dec x pc (.tableswitch dflt lo hi offs) len) (ht0 : (pc : Int) + dflt = (t0 : Int)) (hts : offs.toList.map (fun o => (pc : Int) + o) = ts.map (fun t : Nat => (t : Int))) (hln : hi = lo + (ts.length : Int) - 1)
    (k : (a < lo ∨ hi < a → ab_J x t0 lv st ws kc ks) ∧ ab_sw a hi lo ts (fun t => ab_J x t lv st ws kc ks)) : ab_J x pc lv (.inl a :: st) ws kc ks := by
  intro ad H locs ls h1 h2 h3 h4 h5 h6 h7 h8 h9
  have ha : ab_okk 0 a := h6 _ List.mem_cons_self
  have h6' := ab_okt h6
  by_cases hc : a < lo ∨ hi < a
  · exact lv_tableOut X.ex X.cd hd (by rw [ab_t32 ha]; exact hc) ht0 (k.1 hc ad H locs ls h1 h2 h3 h4 h5 h6' h7 h8 h9)
  · have hlt : (a - lo).toNat < ts.length := by omega
    have hlen : offs.toList.length = ts.length := by have := congrArg List.length hts; simpa using this
    obtain ⟨off, hoff⟩ : ∃ off, offs.toList[(a - lo).toNat]? = some off := ⟨offs.toList[(a - lo).toNat]'(by omega), by simp⟩
    obtain ⟨t, ht⟩ : ∃ t, ts[(a - lo).toNat]? = some t := ⟨ts[(a - lo).toNat], by simp [hlt]⟩
    have he : (pc : Int) + off = (t : Int) := by
      have := congrArg (fun l : List Int => l[(a - lo).toNat]?) hts
      simp only [List.getElem?_map, hoff, ht, Option.map_some, Option.some.injEq] at this
      exact this
    exact lv_tableIn X.ex X.cd hd (by rw [ab_t32 ha]; omega) (by rw [ab_t32 ha]; omega) (off := off) (by rw [ab_t32 ha, ← Array.getElem?_toList]; exact hoff) he (ab_sw_at _ k.2 ht (by omega) ad H locs ls h1 h2 h3 h4 h5 h6' h7 h8 h9)
end
