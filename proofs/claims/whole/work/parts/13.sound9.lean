/-! SOUNDNESS, ninth part: the call -/
theorem ab_gw_good {w : Jvm.Cond} (h : w ∈ ab_gw) : (w.onTables && w.keeps) = true ∨ ∃ ty, w = .arrayClass ty := good_of_word (List.mem_filter.mp h).2
theorem ab_ws_in {M : ab_M} (h : ab_mok M) : ∀ w ∈ ab_ws M, w ∈ ab_gw := fun w hw => by
  rcases List.mem_cons.mp hw with rfl | hw
  · exact h.1
  · exact hw
section
variable {p : Program} {l : Launch} {e : Env} {R : Room} {s : State} {m : MethodId} {args : Array Value} {below : List Frame} {meth : Method} {c : Code} {H : Heap} {locs : List Loc} {cells slots : Nat} {Q : State → Prop}
variable {pc : Nat} {ls : Array Slot} {rest st0 : List Value} {a : Array Value} {A0 : Nat → Prop} {H0 : Heap} {mc ms : Nat} {free : Addr → Prop}
theorem ab_callg {E : ab_E} {ad0 : Nat → Nat → Nat} {sz : Nat} {M : ab_M} {Post : Option ab_V → List ab_Ob → Prop} (hr : va_Run p l e R s m args below meth c H locs cells slots mc ms (F0 m pc ls st0) rest (ab_Q E ad0 sz M Post a) free) (hS : va_S A0 H0 H locs) (hA : ∀ q, q < H.size → ab_rg (ab_G M) ad0 sz q → A0 q) (hf : ∀ q, free q → A0 q)
    (kk : ∀ (rv : Option ab_V) (ws : List ab_Ob) (ad : Nat → Nat → Nat) (H1 : Heap) (locs1 : List Loc), Post rv ws → (∀ v, rv = some v → ab_okv v) → ab_W E ad (ab_G M) ws H1 → ab_rel (ab_mv M) ad0 ad → ab_ia ad (ab_G M) (ab_rg (ab_G M) ad0 sz) → H.size ≤ H1.size → (∀ q : Nat, q < H.size → ¬ ab_rg (ab_G M) ad0 sz q → H1[q]? = H[q]?) → va_S A0 H0 H1 locs1 → W p l e R s m args below meth c H1 locs1 (cells + mc) (slots + ms) Q (F0 m (pc + 3) ls ((rv.map (ab_cv ad E.2.2.1)).toList ++ rest))) : W p l e R s m args below meth c H locs cells slots Q (F0 m pc ls st0) := by
  intro T hT X
  obtain ⟨v, st₀, t, T', L, h0, X', hL, e1, e2, ⟨⟨rv, ws, ad, hv, g1, g2, g3, g4, g5⟩, hz, hk⟩, st⟩ := hr T hT X
  cases hv
  rw [h0] at hz hk
  obtain ⟨t2, a1, b1⟩ := kk rv ws ad T'.heap (locs ++ L) g1 g2 (by rw [e1]; exact g3) g4 g5 (by rw [e1]; exact hz) (fun q h1 h2 => by rw [e1]; exact hk q h1 h2)
    ⟨Nat.le_trans hS.1 (by rw [e1]; exact hz), fun q h1 h2 => by rw [e1, hk q (Nat.lt_of_lt_of_le h1 hS.1) (fun z => h2 (hA q (Nat.lt_of_lt_of_le h1 hS.1) z))]; exact hS.2.1 q h1 h2, fun q hq => by
      rcases List.mem_append.mp hq with h | h
      · exact hS.2.2 q h
      · exact hf _ (hL q h)⟩ T' rfl X'
  exact ⟨t2, st t2 a1, b1⟩
end
section
variable {x : ab_Cx} {pc : Nat} {lv : List (Option ab_V)} {ws : List ab_Ob} {kc ks : Nat}
/-- what is given at a call, whichever way it is made -/
theorem ab_r_call (X : ab_X x) {M : ab_M} {mc ms : Nat} {as as' rest : List ab_V} {pl G' : List Nat} {ws' : List ab_Ob} {Q0 : Option ab_V → List ab_Ob → Prop} (hC : ab_WC (ab_cd' x) mc ms M as' ws' Q0) (hrens : ab_rens pl as = some as') (hsub : ab_sub ws pl = some ws') (hsG : ab_sub (ab_G (ab_cM x)) pl = some G') (hnd : ab_nd pl = true) (heq : ab_eqs G' (ab_G M) = true) (hck : ab_ck2 pl 0 pl G' = true) (hmv : ab_mv M = true → ab_mv (ab_cM x) = true ∧ ab_nas rest = true ∧ ab_nal lv = true)
    (hroom0 : kc ≤ ab_cc x ∧ ks ≤ ab_ck x → kc + mc ≤ ab_cc x ∧ ks + ms ≤ ab_ck x)
    (hrun : ∀ (ad : Nat → Nat → Nat) (H : Heap) (locs : List Loc) (ls : Array Slot) (adC : Nat → Nat → Nat), (∀ q o f, ab_at pl q = some o → adC q f = ad o f) → ab_W (ab_cE x) ad (ab_G (ab_cM x)) ws H → ab_ia ad (ab_G (ab_cM x)) (ab_cA x) → va_S (ab_cA x) (ab_cs x).heap H locs → lv_has ls (ab_ml (ab_cM x)) (ab_lc ad (ab_cE x).2.2.1 0 lv) → (∀ v ∈ as.reverse ++ rest, ab_okv v) → (kc + mc ≤ ab_cc x ∧ ks + ms ≤ ab_ck x) →
      Met x.1.2.1 (ab_nm M) (ab_ws M) (ab_rm (ab_cd' x) mc ms) (va_Pc (as.map (ab_cv ad (ab_cE x).2.2.1)) (fun U => U.heap.size = H.size ∧ ab_W (ab_cE x) adC (ab_G M) ws' U.heap ∧ ab_ia adC (ab_G M) (fun _ => True) ∧ ab_K (ab_cE x) (ab_rg (ab_G M) adC H.size) U U.heap)) (ab_Q (ab_cE x) adC H.size M Q0) mc ms (ab_rg (ab_G M) adC H.size) →
      PreS (ab_cs x) H (va_Pc (as.map (ab_cv ad (ab_cE x).2.2.1)) (fun U => U.heap.size = H.size ∧ ab_W (ab_cE x) adC (ab_G M) ws' U.heap ∧ ab_ia adC (ab_G M) (fun _ => True) ∧ ab_K (ab_cE x) (ab_rg (ab_G M) adC H.size) U U.heap)) (as.map (ab_cv ad (ab_cE x).2.2.1)) →
      va_Run x.1.1 x.1.2.1 x.1.2.2.1 (ab_cR x) (ab_cs x) (ab_cm x) (ab_ca x) x.2.1.1 x.2.1.2.1 x.2.1.2.2.1 H locs kc ks mc ms (F0 (ab_cm x) pc ls ((as.reverse ++ rest).map (ab_cv ad (ab_cE x).2.2.1))) (rest.map (ab_cv ad (ab_cE x).2.2.1)) (ab_Q (ab_cE x) adC H.size M Q0 (as.map (ab_cv ad (ab_cE x).2.2.1)).toArray) (ab_rg (ab_G M) adC H.size))
    (k0 : ∀ rv ws'', Q0 rv ws'' → ∃ st', ab_back pl rv rest = some st' ∧ ab_J x (pc + 3) lv st' (ab_put ws pl ws'') (kc + mc) (ks + ms)) : ab_J x pc lv (as.reverse ++ rest) ws kc ks := by
  intro ad H locs ls h1 h2 h3 h4 h5 h6 h7 h8 h9
  have hroom := hroom0 h9
  have eG := ab_eqs_eq heq
  subst eG
  obtain ⟨adC, hadC⟩ : ∃ adC : Nat → Nat → Nat, ∀ q f, adC q f = match ab_at pl q with | some o => ad o f | none => 0 := ⟨_, fun _ _ => rfl⟩
  have hC1 : ∀ q o f, ab_at pl q = some o → adC q f = ad o f := fun q o f h => by rw [hadC, h]
  obtain ⟨lG, hG⟩ := ab_sub_at hsG
  obtain ⟨lW, hW⟩ := ab_sub_at hsub
  have hrc := ab_rens_cv (ad := ad) (ad' := adC) (ak := (ab_cE x).2.2.1) hrens (fun q o h => hC1 q o 0 h)
  -- slots of the callee are slots of ours
  have hslC : ∀ q f, ab_sl (ab_G M) q f → ∃ o, ab_at pl q = some o ∧ ab_sl (ab_G (ab_cM x)) o f := by
    intro q f hs
    match f, hs with
    | 0, ⟨c1, hc1⟩ =>
      obtain ⟨o, ho, hc⟩ := hG q c1 hc1
      exact ⟨o, ho, c1, hc⟩
    | g + 1, ⟨c1, hc1, hg⟩ =>
      obtain ⟨o, ho, hc⟩ := hG q c1 hc1
      exact ⟨o, ho, c1, hc, hg⟩
  have hWC : ab_W (ab_cE x) adC (ab_G M) ws' H := by
    refine ⟨by rw [lW, lG], fun q ci ob g1 g2 => ?_⟩
    obtain ⟨o, ho, hc⟩ := hG q ci g1
    obtain ⟨o', ho', hb'⟩ := hW q ob g2
    cases ho.symm.trans ho'
    refine ab_ob_move (h2.2 o ci ob hc hb') (hC1 _ _ _ ho) (fun f _ => hC1 _ _ _ ho) (fun f k hf => ?_)
    have := ab_ck2_at hck ho g1 hf
    rw [Nat.zero_add] at this
    exact hC1 _ _ _ this
  have hIC : ab_ia adC (ab_G M) (fun _ => True) := by
    refine ⟨fun q f q' f' s1 s2 he => ?_, fun _ _ _ => trivial⟩
    obtain ⟨o, ho, hs1⟩ := hslC q f s1
    obtain ⟨o', ho', hs2⟩ := hslC q' f' s2
    rw [hC1 _ _ _ ho, hC1 _ _ _ ho'] at he
    obtain ⟨e1, e2⟩ := h3.1 _ _ _ _ hs1 hs2 he
    subst e1
    exact ⟨ab_nd_inj hnd ho ho', e2⟩
  have hrgA : ∀ q, ab_rg (ab_G M) adC H.size q → ab_cA x q := by
    rintro q (⟨q0, f, hs, rfl⟩ | hq)
    · obtain ⟨o, ho, hs1⟩ := hslC q0 f hs
      rw [hC1 _ _ _ ho]
      exact h3.2 _ _ hs1
    · exact X.A q (Nat.le_trans h4.1 hq)
  have hPre : PreS (ab_cs x) H (va_Pc (as.map (ab_cv ad (ab_cE x).2.2.1)) (fun U => U.heap.size = H.size ∧ ab_W (ab_cE x) adC (ab_G M) ws' U.heap ∧ ab_ia adC (ab_G M) (fun _ => True) ∧ ab_K (ab_cE x) (ab_rg (ab_G M) adC H.size) U U.heap)) (as.map (ab_cv ad (ab_cE x).2.2.1)) :=
    ⟨fun a U g mk q => ⟨q.1, q.2.1, q.2.2.1, q.2.2.2.1, ab_K_blind q.2.2.2.2 rfl rfl⟩, fun U hU hWm => ⟨rfl, by rw [hU], by rw [hU]; exact hWC, hIC, ab_K_at X.K h4 hU hWm hrgA⟩⟩
  have hMet := hC.2 x.1.2.1 (ab_cE x) adC H.size (hrc.2 (fun v hv => h6 v (List.mem_append_left _ (List.mem_reverse.mpr hv))))
  rw [hrc.1] at hMet
  refine ab_callg (hrun ad H locs ls adC hC1 h2 h3 h4 h5 h6 hroom hMet hPre) h4 (fun q _ h => hrgA q h) hrgA ?_
  intro rv1 ws1 ad1 H1 locs1 hQ0 hok1 hW1 hrel1 hI1 hz1 hk1 hS1
  obtain ⟨st', hb, k⟩ := k0 rv1 ws1 hQ0
  -- our addresses behind the call
  obtain ⟨ad2, had2⟩ : ∃ ad2 : Nat → Nat → Nat, ∀ o f, ad2 o f = match ab_ix o pl with | some q => ad1 q f | none => ad o f := ⟨_, fun _ _ => rfl⟩
  have hin2 : ∀ q o f, ab_at pl q = some o → ad2 o f = ad1 q f := fun q o f h => by rw [had2, ab_ix_of hnd h]
  have hout2 : ∀ o f, ab_ix o pl = none → ad2 o f = ad o f := fun o f h => by rw [had2, h]
  have ha0 : ∀ o, ad2 o 0 = ad o 0 := fun o => by
    cases hx : ab_ix o pl with
    | none => exact hout2 o 0 hx
    | some q => rw [hin2 q o 0 (ab_ix_at hx), hrel1.1 q, hC1 q o 0 (ab_ix_at hx)]
  have hsame : ab_mv M = false → ∀ o f, ad2 o f = ad o f := fun h o f => by
    cases hx : ab_ix o pl with
    | none => exact hout2 o f hx
    | some q => rw [hin2 q o f (ab_ix_at hx), hrel1.2 h q f, hC1 q o f (ab_ix_at hx)]
  have hnotrg : ∀ o f, ab_sl (ab_G (ab_cM x)) o f → ab_ix o pl = none → ¬ ab_rg (ab_G M) adC H.size (ad o f) := by
    rintro o f hs hx (⟨q0, f0, hs0, he⟩ | hq)
    · obtain ⟨o', ho', hs1⟩ := hslC q0 f0 hs0
      rw [hC1 _ _ _ ho'] at he
      obtain ⟨e1, _⟩ := h3.1 _ _ _ _ hs1 hs he
      subst e1
      exact ab_ix_none hx ho'
    · have := ab_W_lt h2 hs
      omega
  have hWn : ab_W (ab_cE x) ad2 (ab_G (ab_cM x)) (ab_put ws pl ws1) H1 := by
    refine ⟨by rw [ab_put_len]; exact h2.1, fun o ci ob g1 g2 => ?_⟩
    cases hx : ab_ix o pl with
    | none =>
      rw [ab_put_out (fun q => ab_ix_none hx)] at g2
      have h0 := h2.2 o ci ob g1 g2
      have hk : ∀ f, ab_sl (ab_G (ab_cM x)) o f → H1[ad o f]? = H[ad o f]? := fun f hs => hk1 _ (ab_W_lt h2 hs) (hnotrg o f hs hx)
      have h0' : ab_ob (ab_cE x) ad o ci ob H1 := ⟨h0.1.kept (hk 0 (ab_sl0 g1)), fun f hf => by rw [hk _ (ab_slf g1 hf)]; exact h0.2.1 f hf, h0.2.2⟩
      exact ab_ob_move h0' (ha0 o) (fun f _ => hout2 o _ hx) (fun f k _ => ha0 _)
    | some q =>
      have hq := ab_ix_at hx
      have hb' := ab_put_in hnd hq (by rw [hW1.1, lG]) g2
      obtain ⟨c1, hc1⟩ : ∃ c1, ab_at (ab_G M) q = some c1 := ⟨(ab_G M)[q]'(by rw [← hW1.1]; exact ab_at_lt hb'), by rw [ab_at_eq]; simp⟩
      obtain ⟨o', ho', hcc⟩ := hG q c1 hc1
      cases hq.symm.trans ho'
      cases g1.symm.trans hcc
      refine ab_ob_move (hW1.2 q ci ob hc1 hb') (hin2 _ _ _ hq) (fun f _ => hin2 _ _ _ hq) (fun f k hf => ?_)
      have := ab_ck2_at hck hq hc1 hf
      rw [Nat.zero_add] at this
      exact hin2 _ _ _ this
  have hslI : ∀ o f q, ab_sl (ab_G (ab_cM x)) o f → ab_at pl q = some o → ab_sl (ab_G M) q f := by
    intro o f q hs hq
    have hql : q < (ab_G M).length := by rw [lG]; exact ab_at_lt hq
    obtain ⟨c1, hc1⟩ : ∃ c1, ab_at (ab_G M) q = some c1 := ⟨(ab_G M)[q], by rw [ab_at_eq]; simp [hql]⟩
    obtain ⟨o', ho', hcc⟩ := hG q c1 hc1
    cases hq.symm.trans ho'
    match f, hs with
    | 0, ⟨c2, _⟩ => exact ⟨c1, hc1⟩
    | g + 1, ⟨c2, hc2, hg⟩ =>
      cases hcc.symm.trans hc2
      exact ⟨c1, hc1, hg⟩
  have hIn : ab_ia ad2 (ab_G (ab_cM x)) (ab_cA x) := by
    refine ⟨fun o f o' f' s1 s2 he => ?_, fun o f s1 => ?_⟩
    · cases hx : ab_ix o pl with
      | none =>
        cases hx' : ab_ix o' pl with
        | none =>
          rw [hout2 _ _ hx, hout2 _ _ hx'] at he
          exact h3.1 _ _ _ _ s1 s2 he
        | some q' =>
          rw [hout2 _ _ hx, hin2 _ _ _ (ab_ix_at hx')] at he
          exact absurd (he ▸ hI1.2 _ _ (hslI _ _ _ s2 (ab_ix_at hx'))) (hnotrg o f s1 hx)
      | some q =>
        cases hx' : ab_ix o' pl with
        | none =>
          rw [hin2 _ _ _ (ab_ix_at hx), hout2 _ _ hx'] at he
          exact absurd (he ▸ hI1.2 _ _ (hslI _ _ _ s1 (ab_ix_at hx))) (hnotrg o' f' s2 hx')
        | some q' =>
          rw [hin2 _ _ _ (ab_ix_at hx), hin2 _ _ _ (ab_ix_at hx')] at he
          obtain ⟨e1, e2⟩ := hI1.1 _ _ _ _ (hslI _ _ _ s1 (ab_ix_at hx)) (hslI _ _ _ s2 (ab_ix_at hx')) he
          subst e1
          exact ⟨Option.some.inj ((ab_ix_at hx).symm.trans (ab_ix_at hx')), e2⟩
    · cases hx : ab_ix o pl with
      | none => rw [hout2 _ _ hx]; exact h3.2 _ _ s1
      | some q => rw [hin2 _ _ _ (ab_ix_at hx)]; exact hrgA _ (hI1.2 _ _ (hslI _ _ _ s1 (ab_ix_at hx)))
  have hreln : ab_rel (ab_mv (ab_cM x)) (ab_c0 x) ad2 := by
    refine ⟨fun o => by rw [ha0]; exact h1.1 o, fun hf o f => ?_⟩
    have hm : ab_mv M = false := by
      cases hm : ab_mv M with
      | false => rfl
      | true => rw [(hmv hm).1] at hf; cases hf
    rw [hsame hm]
    exact h1.2 hf o f
  have hrest : rest.map (ab_cv ad2 (ab_cE x).2.2.1) = rest.map (ab_cv ad (ab_cE x).2.2.1) := by
    cases hm : ab_mv M with
    | false => rw [show ad2 = ad from funext fun o => funext fun f => hsame hm o f]
    | true => exact ab_map_na ha0 (hmv hm).2.1
  have hlvn : lv_has ls (ab_ml (ab_cM x)) (ab_lc ad2 (ab_cE x).2.2.1 0 lv) := by
    cases hm : ab_mv M with
    | false => rw [show ad2 = ad from funext fun o => funext fun f => hsame hm o f]; exact h5
    | true => exact ab_lc_na ha0 (hmv hm).2.2 h5
  have hst : st'.map (ab_cv ad2 (ab_cE x).2.2.1) = (rv1.map (ab_cv ad1 (ab_cE x).2.2.1)).toList ++ rest.map (ab_cv ad (ab_cE x).2.2.1) ∧ ∀ v ∈ st', ab_okv v := by
    have hokr : ∀ v ∈ rest, ab_okv v := fun v hv => h6 v (List.mem_append_right _ hv)
    unfold ab_back at hb
    split at hb
    · cases hb
      exact ⟨hrest, hokr⟩
    · rename_i q
      cases hq : ab_at pl q with
      | none => rw [hq] at hb; cases hb
      | some o =>
        rw [hq] at hb
        cases hb
        refine ⟨?_, ab_okc trivial hokr⟩
        rw [List.map_cons, hrest]
        simp only [ab_cv, Option.map_some, Option.toList_some, List.cons_append, List.nil_append]
        rw [hin2 _ _ _ hq]
    · cases hb
    · rename_i v hn1 hn2
      cases hb
      refine ⟨?_, ab_okc (hok1 _ rfl) hokr⟩
      rw [List.map_cons, hrest]
      rcases v with z | z | o | q | n
      · rfl
      · rfl
      · exact absurd rfl (hn1 o)
      · exact absurd rfl (hn2 _)
      · exact absurd rfl (hn2 _)
  have kk := k ad2 H1 locs1 ls hreln hWn hIn hS1 hlvn hst.2 h7 h8 hroom
  rw [hst.1] at kk
  exact kk
end
