/-! THE REFERENCE: what is kept -/
def md_kl (m : ab_Ob) : Prop := (m.2 45).1 = 24 ∧ (m.2 46).1 = 24 ∧ (m.2 47).1 = 24 ∧ (m.2 48).1 = 24 ∧ (m.2 49).1 = 24 ∧ (m.2 50).1 = 24
def kv_e (c : Int → Int → Int → Int → Int) (v : ab_Ob) (t : Int) (e : Int × Int × Int × Int) : Prop := (v.2 45).2 t = e.1 ∧ (v.2 46).2 t = e.2.1 ∧ (v.2 47).2 t = tq_sp c e ∧ (v.2 48).2 t = e.2.2.1 ∧ (v.2 49).2 t = tr_un c e
/-- the best tree by these costs is kept -/
def md_K (m : ab_Ob) (c : Int → Int → Int → Int → Int) (n : Int) : Prop := m.1 51 = n - 1 ∧ (∀ (t : Nat) e, (tr_B c n)[t]? = some e → kv_e c m t e) ∧ ∀ k : Int, 0 ≤ k → k < 24 → (m.2 50).2 k = mt_rk (tr_A c n) k
/-- what keeping leaves as it is -/
def kv_f (m v : ab_Ob) : Prop := (∀ f, f ≠ 0 → f ≠ 1 → f ≠ 2 → f ≠ 15 → f ≠ 51 → v.1 f = m.1 f) ∧ (∀ f, f < 45 ∨ 50 < f → v.2 f = m.2 f) ∧ ∀ f, (v.2 f).1 = (m.2 f).1
theorem md_T_of {m v : ab_Ob} {c : Int → Int → Int → Int → Int} {n : Int} (h40 : v.1 40 = m.1 40) (h2 : ∀ f, f < 36 → v.2 f = m.2 f) (hl : ∀ f, (v.2 f).1 = (m.2 f).1) (h : md_T m c n) : md_T v c n := by
  obtain ⟨h1, h3, h4, h5, h6⟩ := h
  refine ⟨?_, ?_, fun i j k a1 a2 a3 a4 a5 => ?_, ⟨by rw [h40]; exact h5.1, fun p e he => ?_, fun k k0 k1 => ?_⟩, h6⟩
  · unfold md_len at h1 ⊢
    simp only [hl]
    exact h1
  · unfold md_len2 at h3 ⊢
    simp only [hl]
    exact h3
  · have := h4 i j k a1 a2 a3 a4 a5
    unfold md_ce at this ⊢
    rw [h2 27 (by omega), h2 28 (by omega), h2 29 (by omega), h2 30 (by omega)]
    exact this
  · have := h5.2.1 p e he
    unfold mt_pt at this ⊢
    rw [h2 31 (by omega), h2 32 (by omega), h2 33 (by omega), h2 34 (by omega)]
    exact this
  · rw [h2 35 (by omega)]
    exact h5.2.2 k k0 k1
theorem mi_I_of {b m v : ab_Ob} (h1 : ∀ f, f = 6 ∨ f = 7 ∨ f = 8 ∨ f = 14 ∨ f = 40 → v.1 f = m.1 f) (h2 : ∀ f, f < 36 → v.2 f = m.2 f) (hl : ∀ f, (v.2 f).1 = (m.2 f).1) (h : mi_I b m) : mi_I b v := by
  obtain ⟨i1, hb, hdd, n1, hp, hq, hT⟩ := h
  refine ⟨by rw [h1 14 (by omega)]; exact i1, hb, hdd, n1, ?_, ?_, md_T_of (h1 40 (by omega)) h2 hl hT⟩
  · unfold md_p at hp ⊢
    rw [h1 8 (by omega), h1 6 (by omega), h1 7 (by omega), h2 3 (by omega)]
    exact hp
  · unfold md_d at hq ⊢
    rw [h2 25 (by omega), h2 26 (by omega)]
    exact hq
theorem mi_I_kf {b m v : ab_Ob} (f : kv_f m v) (h : mi_I b m) : mi_I b v := mi_I_of (fun g hg => f.1 g (by omega) (by omega) (by omega) (by omega) (by omega)) (fun g hg => f.2.1 g (by omega)) f.2.2 h
theorem c9_keep (d : Nat) {b m : ab_Ob} (h : mi_I b m) (hk : md_kl m) : ab_Ct (d + 3) 0 0 mX9_keep [ab_O 0] [m] (fun rv w => rv = some (ab_I (an_B b 0 (b.1 3 - 1))) ∧ ∃ v, w = [v] ∧ kv_f m v ∧ md_K v (sc_br b) (b.1 3) ∧ v.1 0 = 0 ∧ v.1 1 = 0 ∧ v.1 2 = -1 ∧ v.1 15 = 1) := by
  obtain ⟨i1, hb, hdd, n1, hp, hq, hT⟩ := id h
  have hn := hb.2.1
  obtain ⟨k45, k46, k47, k48, k49, k50⟩ := id hk
  obtain ⟨m31, m32, m33, m34, m35, _⟩ := hT.2.1
  have n27 := hT.1.2.2.2.1
  have lenA := tr_A_len (sc_br b) n1
  have lenB := tr_B_len (sc_br b) n1
  have e40 : m.1 40 = 2 * b.1 3 - 1 := hT.2.2.2.1.1
  have e8 : m.1 8 = b.1 3 := hp.1
  have hH := dp_H_in (c := sc_br b) (i := 0) (j := b.1 3 - 1) (by omega)
  have cu := md_cu_b (i := 0) (j := b.1 3 - 1) (h := dp_H (sc_br b) 0 (b.1 3 - 1)) (by omega) (by omega) (by omega)
  refine ab_ct kX9_keep rfl rfl (fun x hx => ?_)
  have k56 : ∀ (q t : Nat) (v : ab_Ob), t + q = (tr_A (sc_br b) (b.1 3)).length → kv_f m v → v.1 0 = 0 → v.1 15 = 1 → v.1 51 = (((tr_A (sc_br b) (b.1 3)).take t).filter tr_jn).length → (∀ k : Int, 0 ≤ k → k < 24 → (v.2 50).2 k = mt_rk (tr_A (sc_br b) (b.1 3)) k) → (∀ (s : Nat) e, (((tr_A (sc_br b) (b.1 3)).take t).filter tr_jn)[s]? = some e → kv_e (sc_br b) v s e) → ab_J x 56 [some (ab_O 0), some (ab_I t)] [] [v] 0 0 := by
    intro q
    induction q with
    | zero =>
      intro t v ht f h0 h15 h51 hr hs
      have hI := mi_I_kf f h
      have e40' : v.1 40 = m.1 40 := f.1 40 (by decide) (by decide) (by decide) (by decide) (by decide)
      have e8' : v.1 8 = b.1 3 := hI.2.2.2.2.1.1
      rw [List.take_of_length_le (by omega), ← tr_B_eq] at h51 hs
      have e27 : (v.2 27).2 (md_cu 0 (b.1 3 - 1) (dp_H (sc_br b) 0 (b.1 3 - 1))) = an_B b 0 (b.1 3 - 1) := (hI.2.2.2.2.2.2.2.2.1 0 (b.1 3 - 1) _ (by omega) (by omega) (by omega) hH.1 hH.2).1
      have l27 : (v.2 27).1 = 13824 := by rw [f.2.2]; exact n27
      refine vX9_keep_56 hx _ v 0 0 ⟨fun _ => ?_, fun g => absurd (by omega) g⟩
      rw [e8']
      refine ⟨by omega, by omega, ab_x1 (c9_headOf' d hI (by omega) (by omega) (by omega)) (ab_x1 (c9_cube (d + 1) (by omega) (by omega) (by omega)) ⟨by omega, ?_⟩)⟩
      rw [e27]
      refine ⟨_, c9_good (d + 1) v _, fun r w hr' => ?_⟩
      obtain ⟨hr1, hr2⟩ := hr'
      cases hr1
      cases hr2
      refine ⟨⟨⟨_, rfl⟩, _, _, rfl, rfl⟩, rfl, _, rfl, ⟨fun g g0 g1 g2 g3 g4 => ?_, f.2.1, f.2.2⟩, ⟨?_, hs, hr⟩, h0, rfl, rfl, h15⟩
      · rw [hd_pf_ne g2, hd_pf_ne g1]
        exact f.1 g g0 g1 g2 g3 g4
      · show v.1 51 = _
        rw [h51, lenB]
        omega
    | succ q ih =>
      intro t v ht f h0 h15 h51 hr hs
      have hI := mi_I_kf f h
      have hT' := hI.2.2.2.2.2.2
      have e40' : v.1 40 = m.1 40 := f.1 40 (by decide) (by decide) (by decide) (by decide) (by decide)
      have he := List.getElem?_eq_getElem (l := tr_A (sc_br b) (b.1 3)) (i := t) (by omega)
      generalize (tr_A (sc_br b) (b.1 3))[t] = e at he
      obtain ⟨a1, ⟨q1, q2, q3, q4⟩, a3, a4⟩ := md_e hT' he
      have sl : (((tr_A (sc_br b) (b.1 3)).take t).filter tr_jn).length ≤ t := Nat.le_trans (List.length_filter_le _ _) (by rw [List.length_take]; omega)
      have nx := fl_tk (q := tr_jn) he
      obtain ⟨p31, p32, p33, p34, p35, _⟩ := hT'.2.1
      have l45 : (v.2 45).1 = 24 := by rw [f.2.2]; exact k45
      have l46 : (v.2 46).1 = 24 := by rw [f.2.2]; exact k46
      have l47 : (v.2 47).1 = 24 := by rw [f.2.2]; exact k47
      have l48 : (v.2 48).1 = 24 := by rw [f.2.2]; exact k48
      have l49 : (v.2 49).1 = 24 := by rw [f.2.2]; exact k49
      refine vX9_keep_56 hx _ v 0 0 ⟨fun g => absurd g (by omega), fun _ => ab_xb (c9_isJoining (d + 1) hT' he) (fun p => ⟨fun _ => ?_, fun g => absurd g (by decide)⟩) (fun p => ⟨fun g => absurd rfl g, fun _ => vX9_keep_158 hx _ v 0 0 ⟨by omega, ?_⟩⟩)⟩
      · have lt : e.1 < e.2.1 := by unfold tr_jn at p; simpa using p
        rw [if_pos p] at nx
        have fl := fl_at (q := tr_jn) he p
        obtain ⟨wl, _⟩ := List.getElem?_eq_some_iff.mp fl
        rw [← tr_B_eq, lenB] at wl
        refine ⟨by omega, by omega, by omega, by omega, ?_⟩
        refine ab_x1 (c9_splitAt d (m := ab_pa (ab_pa v 45 (v.1 51) ((v.2 31).2 t)) 46 (v.1 51) ((v.2 32).2 t)) hT' he lt) ⟨by omega, by omega, by omega, ?_⟩
        refine ab_x1 (c9_underAt d (m := ab_pa (ab_pa (ab_pa (ab_pa v 45 (v.1 51) ((v.2 31).2 t)) 46 (v.1 51) ((v.2 32).2 t)) 47 (v.1 51) (tq_sp (sc_br b) e)) 48 (v.1 51) ((v.2 33).2 t)) hT' he lt) ⟨by omega, by omega, ?_⟩
        refine vX9_keep_158 hx _ _ 0 0 ⟨by omega, ih (t + 1) _ (by omega) ⟨fun g g0 g1 g2 g3 g4 => ?_, fun g hg => ?_, fun g => ?_⟩ h0 h15 ?_ ?_ (fun s y hy => ?_)⟩
        · rw [hd_pf_ne g4]
          exact f.1 g g0 g1 g2 g3 g4
        · rw [hd_pf_2, hd_pa_ne (by omega), hd_pa_ne (by omega), hd_pa_ne (by omega), hd_pa_ne (by omega), hd_pa_ne (by omega)]
          exact f.2.1 g hg
        · rw [hd_pf_2, hd_pa_len, hd_pa_len, hd_pa_len, hd_pa_len, hd_pa_len]
          exact f.2.2 g
        · rw [hd_pf_eq, nx, List.length_append, h51]
          simp
        · rw [hd_pf_2, hd_pa_ne (by decide), hd_pa_ne (by decide), hd_pa_ne (by decide), hd_pa_ne (by decide), hd_pa_ne (by decide)]
          exact hr
        · rw [nx] at hy
          by_cases hlt : s < (((tr_A (sc_br b) (b.1 3)).take t).filter tr_jn).length
          · rw [List.getElem?_append_left hlt] at hy
            have old := hs s y hy
            have ne : (s : Int) ≠ v.1 51 := by omega
            unfold kv_e at old ⊢
            simp [ab_pf, ab_pa, ab_ua, ab_ui, ne]
            exact old
          · rw [List.getElem?_append_right (by omega)] at hy
            obtain ⟨wl2, _⟩ := List.getElem?_eq_some_iff.mp hy
            simp at wl2
            have es : s = (((tr_A (sc_br b) (b.1 3)).take t).filter tr_jn).length := by omega
            rw [es, Nat.sub_self] at hy
            simp only [List.getElem?_cons_zero, Option.some.injEq] at hy
            subst hy
            have eq : (s : Int) = v.1 51 := by omega
            rw [eq]
            unfold kv_e
            simp [ab_pf, ab_pa, ab_ua, ab_ui]
            exact ⟨q1, q2, q3⟩
      · rw [if_neg p, List.append_nil] at nx
        exact ih (t + 1) v (by omega) f h0 h15 (by rw [nx]; exact h51) hr (by rw [nx]; exact hs)
  have k30 : ∀ (q : Nat) (t : Int) (v : ab_Ob), t + q = 24 → 0 ≤ t → kv_f m v → v.1 0 = 0 → v.1 15 = 1 → v.1 51 = 0 → (∀ k : Int, 0 ≤ k → k < t → (v.2 50).2 k = mt_rk (tr_A (sc_br b) (b.1 3)) k) → ab_J x 30 [some (ab_O 0), some (ab_I t)] [] [v] 0 0 := by
    intro q
    induction q with
    | zero =>
      intro t v ht t0 f h0 h15 h51 hr
      refine vX9_keep_30 hx _ v 0 0 ⟨fun _ => ?_, fun g => absurd (by omega) g⟩
      exact k56 (tr_A (sc_br b) (b.1 3)).length 0 v (by omega) f h0 h15 (by rw [h51]; simp) (fun k k0 k1 => hr k k0 (by omega)) (fun s e hs => by simp at hs)
    | succ q ih =>
      intro t v ht t0 f h0 h15 h51 hr
      push_cast at ht
      have r35 : (v.2 35).2 t = mt_rk (tr_A (sc_br b) (b.1 3)) t := by
        rw [f.2.1 35 (by omega)]
        exact hT.2.2.2.1.2.2 t t0 (by omega)
      have l35 : (v.2 35).1 = 24 := by rw [f.2.2]; exact m35
      have l50 : (v.2 50).1 = 24 := by rw [f.2.2]; exact k50
      refine vX9_keep_30 hx _ v 0 0 ⟨fun g => absurd g (by omega), fun _ => ⟨by omega, by omega, by omega, ih (t + 1) _ (by omega) (by omega) ⟨f.1, fun g hg => ?_, fun g => ?_⟩ h0 h15 h51 (fun k k0 k1 => ?_)⟩⟩
      · rw [hd_pa_ne (by omega)]
        exact f.2.1 g hg
      · rw [hd_pa_len]
        exact f.2.2 g
      · rw [hd_pa_eq]
        show ab_ui (v.2 50).2 t ((v.2 35).2 t) k = _
        by_cases ek : k = t
        · subst ek
          rw [hd_ui_eq, r35]
        · rw [hd_ui_ne ek]
          exact hr k k0 (by omega)
  refine vX9_keep_0 hx m 0 0 ⟨fun _ => ⟨ab_i11, k30 24 0 _ (by omega) (by omega) ⟨fun g g0 g1 g2 g3 g4 => ?_, fun _ _ => rfl, fun _ => rfl⟩ rfl rfl rfl (fun k k0 k1 => absurd k1 (by omega))⟩, fun g => absurd g i1⟩
  rw [hd_pf_ne g4, hd_pf_ne g3, hd_pf_ne g0]
theorem c9_keep0 (d : Nat) {m : ab_Ob} (h : m.1 14 = 0) : ab_Ct (d + 2) 0 0 mX9_keep [ab_O 0] [m] (ab_Is (-1) [md_an m 1]) :=
  ab_ct kX9_keep rfl rfl (fun x hx => vX9_keep_0 hx m 0 0 ⟨fun g => absurd h g, fun _ => md_rf (RT := (-1, 1)) rfl⟩)
theorem c9_keptAt (d : Nat) {m : ab_Ob} {c : Int → Int → Int → Int → Int} {n a b : Int} (hn : 1 ≤ n ∧ n ≤ 24) (hk : md_kl m) (hK : md_K m c n) : ab_Ct (d + 1) 0 0 mX9_keptAt [ab_O 0, ab_I a, ab_I b] [m] (fun rv w => w = [m] ∧ ∃ r, rv = some (ab_I r) ∧ jo_is (tr_B c n) a b r) := by
  have len := tr_B_len c hn.1
  have e51 := hK.1
  obtain ⟨k45, k46, k47, k48, k49, k50⟩ := id hk
  refine ab_ct kX9_keptAt rfl rfl (fun x hx => vX9_keptAt_0 hx a b m 0 0 ?_)
  have key : ∀ (q t : Nat), t + q = (n - 1).toNat → (∀ (t' : Nat) e, t' < t → (tr_B c n)[t']? = some e → ¬ (e.1 = a ∧ e.2.1 = b)) → ab_J x 2 [some (ab_O 0), some (ab_I a), some (ab_I b), some (ab_I t)] [] [m] 0 0 := by
    intro q
    induction q with
    | zero =>
      intro t ht hall
      refine vX9_keptAt_2 hx _ _ _ m 0 0 ⟨fun _ => ⟨⟨⟨_, rfl⟩, _, rfl, rfl⟩, rfl, -1, rfl, Or.inl ⟨rfl, fun e he => ?_⟩⟩, fun g => absurd (by omega) g⟩
      obtain ⟨t', ht'⟩ := List.getElem?_of_mem he
      obtain ⟨wl, _⟩ := List.getElem?_eq_some_iff.mp ht'
      exact hall t' e (by omega) ht'
    | succ q ih =>
      intro t ht hall
      have het := List.getElem?_eq_getElem (l := tr_B c n) (i := t) (by omega)
      generalize (tr_B c n)[t] = e at het
      obtain ⟨r1, r2, r3, r4, r5⟩ := hK.2.1 t e het
      have nx : ¬ (e.1 = a ∧ e.2.1 = b) → ab_J x 2 [some (ab_O 0), some (ab_I a), some (ab_I b), some (ab_I ((t : Int) + 1))] [] [m] 0 0 := fun g => ih (t + 1) (by omega) (fun t' e' h1 h2 => by
        by_cases eq : t' = t
        · subst eq
          rw [het] at h2
          cases h2
          exact g
        · exact hall t' e' (by omega) h2)
      refine vX9_keptAt_2 hx _ _ _ m 0 0 ⟨fun g => absurd g (by omega), fun _ => ⟨by omega, ?_⟩⟩
      rw [r1, r2]
      exact ⟨fun g => ⟨by omega, nx (fun h => g h.1)⟩, fun g => ⟨by omega, fun g2 => ⟨by omega, nx (fun h => g2 h.2)⟩, fun g2 => ⟨⟨⟨_, rfl⟩, _, rfl, rfl⟩, rfl, t, rfl, Or.inr ⟨t, e, rfl, het, g, g2⟩⟩⟩⟩
  exact key (n - 1).toNat 0 (by omega) (fun t' e h => absurd h (by omega))
/-- kept, or not -/
def mk_S (b m : ab_Ob) (K : Prop) (c : Int → Int → Int → Int → Int) : Prop := ((m.1 14 = 0 ∨ m.1 15 = 0) ∧ ¬ K) ∨ ((¬ m.1 14 = 0 ∧ ¬ m.1 15 = 0) ∧ K ∧ md_kl m ∧ md_K m c (b.1 3))
def un_v (b : ab_Ob) (c : Int → Int → Int → Int → Int) (what : Int) : Int := if what = 0 then tq_sm (fun e => if jo_no (tr_B c (b.1 3)) e = true then 1 else 0) (tr_B (sc_br b) (b.1 3)) else if what = 1 then tq_sm (fun e => if jo_hd (tr_B c (b.1 3)) e = true then 1 else 0) (tr_B (sc_br b) (b.1 3)) else hd_sm (fun k => if mt_rk (tr_A (sc_br b) (b.1 3)) k = mt_rk (tr_A c (b.1 3)) k then 0 else 1) 0 (b.1 3).toNat
def an_unlike (b : ab_Ob) (K : Prop) (c : Int → Int → Int → Int → Int) (what : Int) (RT : Int × Int) : Prop := (¬ (K ∧ 0 ≤ what ∧ what ≤ 2) ∧ RT = (-1, 1)) ∨ ((K ∧ 0 ≤ what ∧ what ≤ 2) ∧ RT = (un_v b c what, 0))
theorem c9_unlike (d : Nat) {b m : ab_Ob} {K : Prop} {c : Int → Int → Int → Int → Int} (h : mi_S b m) (hk : mk_S b m K c) (what : Int) {RT : Int × Int} (hRT : an_unlike b K c what RT) : ab_Ct (d + 2) 0 0 mX9_unlike [ab_O 0, ab_I what] [m] (ab_Is RT.1 [md_an m RT.2]) := by
  refine ab_ct kX9_unlike rfl rfl (fun x hx => ?_)
  have no : ¬ (K ∧ 0 ≤ what ∧ what ≤ 2) → ab_J x 28 [some (ab_O 0), none, none, none, none] [] [ab_pf m 0 0] 0 0 := fun g => by
    refine vX9_unlike_28 hx _ 0 0 (md_rf ?_)
    rcases hRT with ⟨_, e⟩ | ⟨g2, _⟩
    · exact e.symm
    · exact absurd g2 g
  rcases hk with ⟨hz, nK⟩ | ⟨⟨h14, h15⟩, hK, hkl, hKK⟩
  · refine vX9_unlike_0 hx what m 0 0 ⟨fun _ => no (fun g => nK g.1), fun g => ⟨fun _ => no (fun g => nK g.1), fun g2 => absurd hz (by omega)⟩⟩
  · have hI : mi_I b m := by
      rcases h with ⟨h1, _, _⟩ | h
      · exact absurd h1 h14
      · exact h
    obtain ⟨i1, hb, hdd, n1, hp, hq, hT⟩ := id hI
    have hn := hb.2.1
    have e8 : m.1 8 = b.1 3 := hp.1
    have e40 : m.1 40 = 2 * b.1 3 - 1 := hT.2.2.2.1.1
    have lenA := tr_A_len (sc_br b) n1
    have hH' := dp_H_in (c := c) (i := 0) (j := b.1 3 - 1) (by omega)
    obtain ⟨k45, k46, k47, k48, k49, k50⟩ := id hkl
    obtain ⟨m31, m32, m33, m34, m35, _⟩ := hT.2.1
    refine vX9_unlike_0 hx what m 0 0 ⟨fun g => absurd g h14, fun _ => ⟨fun g => absurd g h15, fun _ => ab_xb (c9_in d what 0 2) (fun p => ⟨fun _ => ?_, fun g => absurd g (by decide)⟩) (fun p => ⟨fun g => absurd rfl g, fun _ => no (fun q => p q.2)⟩)⟩⟩
    have eRT : RT = (un_v b c what, 0) := by
      rcases hRT with ⟨g, _⟩ | ⟨_, e⟩
      · exact absurd ⟨hK, p⟩ g
      · exact e
    have fin : ∀ z : Int, z = un_v b c what → ab_J x 175 [some (ab_O 0), none, some (ab_I z), none, none] [] [ab_pf m 0 0] 0 0 := fun z hz => vX9_unlike_175 hx _ _ 0 0 (md_gd (by rw [eRT, hz]))
    by_cases w2 : what = 2
    · have ev : un_v b c what = hd_sm (fun k => if mt_rk (tr_A (sc_br b) (b.1 3)) k = mt_rk (tr_A c (b.1 3)) k then 0 else 1) 0 (b.1 3).toNat := by
        unfold un_v
        rw [if_neg (by omega), if_neg (by omega)]
      have key : ∀ (q t : Nat), t + q = (b.1 3).toNat → ab_J x 133 [some (ab_O 0), some (ab_I what), some (ab_I (hd_sm (fun k => if mt_rk (tr_A (sc_br b) (b.1 3)) k = mt_rk (tr_A c (b.1 3)) k then 0 else 1) 0 t)), some (ab_I t), none] [] [ab_pf m 0 0] 0 0 := by
        intro q
        induction q with
        | zero =>
          intro t ht
          refine vX9_unlike_133 hx _ _ _ _ 0 0 ⟨fun g => absurd w2 g, fun _ => ⟨fun _ => fin _ (by rw [ev, show (b.1 3).toNat = t by omega]), fun g => absurd (by show m.1 8 ≤ _; omega) g⟩⟩
        | succ q ih =>
          intro t ht
          have this := ih (t + 1) (by omega)
          have sb := hd_sm_b (f := fun k => if mt_rk (tr_A (sc_br b) (b.1 3)) k = mt_rk (tr_A c (b.1 3)) k then 0 else 1) (i := 0) (B := 1) (m := t) (fun z z1 z2 => by split <;> omega)
          have r50 : ((ab_pf m 0 0).2 50).2 t = mt_rk (tr_A c (b.1 3)) t := hKK.2.2 t (by omega) (by omega)
          have r35 : ((ab_pf m 0 0).2 35).2 t = mt_rk (tr_A (sc_br b) (b.1 3)) t := hT.2.2.2.1.2.2 t (by omega) (by omega)
          simp only [hd_sm, Int.zero_add] at this
          refine vX9_unlike_133 hx _ _ _ _ 0 0 ⟨fun g => absurd w2 g, fun _ => ⟨fun g => absurd g (by show ¬ m.1 8 ≤ _; omega), fun _ => ⟨by rw [hd_pf_2, k50]; omega, by rw [hd_pf_2, m35]; omega, ?_⟩⟩⟩
          rw [r50, r35]
          refine ⟨fun g => vX9_unlike_167 hx _ _ _ _ _ 0 0 ⟨by omega, by omega, ?_⟩, fun g => vX9_unlike_167 hx _ _ _ _ _ 0 0 ⟨by omega, by omega, ?_⟩⟩
          · rw [if_pos g.symm] at this
            exact this
          · rw [if_neg (fun y => g y.symm)] at this
            exact this
      exact vX9_unlike_38 hx _ _ _ _ 0 0 ⟨fun _ => vX9_unlike_131 hx _ _ _ 0 0 (key (b.1 3).toNat 0 (by omega)), fun g => absurd (by omega) g⟩
    · have w01 : what = 0 ∨ what = 1 := by omega
      -- what is counted
      have key : ∀ (F : Int × Int × Int × Int → Bool), (what = 0 → F = jo_no (tr_B c (b.1 3))) → (what = 1 → F = jo_hd (tr_B c (b.1 3))) → ∀ (q t : Nat), t + q = (tr_A (sc_br b) (b.1 3)).length → ab_J x 38 [some (ab_O 0), some (ab_I what), some (ab_I (tq_sm (fun e => if F e = true then 1 else 0) (((tr_A (sc_br b) (b.1 3)).take t).filter tr_jn))), some (ab_I t), none] [] [ab_pf m 0 0] 0 0 := by
        intro F F0 F1 q
        induction q with
        | zero =>
          intro t ht
          refine vX9_unlike_38 hx _ _ _ _ 0 0 ⟨fun g => absurd g (by omega), fun _ => ⟨fun _ => vX9_unlike_131 hx _ _ _ 0 0 (vX9_unlike_133 hx _ _ _ _ 0 0 ⟨fun _ => fin _ ?_, fun g => absurd g w2⟩), fun g => absurd (by show m.1 40 ≤ _; omega) g⟩⟩
          rw [List.take_of_length_le (by omega), ← tr_B_eq]
          unfold un_v
          rcases w01 with e | e
          · rw [if_pos e, F0 e]
          · rw [if_neg (by omega), if_pos e, F1 e]
        | succ q ih =>
          intro t ht
          have he := List.getElem?_eq_getElem (l := tr_A (sc_br b) (b.1 3)) (i := t) (by omega)
          generalize (tr_A (sc_br b) (b.1 3))[t] = e at he
          obtain ⟨a1, ⟨q1, q2, q3, q4⟩, a3, a4⟩ := md_e hT he
          have sl : (((tr_A (sc_br b) (b.1 3)).take t).filter tr_jn).length ≤ t := Nat.le_trans (List.length_filter_le _ _) (by rw [List.length_take]; omega)
          have b1 := tq_01 (f := fun e => if F e = true then 1 else 0) (fun e => by split <;> omega) (((tr_A (sc_br b) (b.1 3)).take t).filter tr_jn)
          have nx := ih (t + 1) (by omega)
          rw [fl_tk he, tq_sm_app] at nx
          refine vX9_unlike_38 hx _ _ _ _ 0 0 ⟨fun g => absurd g (by omega), fun _ => ⟨fun g => absurd g (by show ¬ m.1 40 ≤ _; omega), fun _ => ab_xb (c9_isJoining d (m := ab_pf m 0 0) hT he) (fun p2 => ⟨fun _ => ⟨by rw [hd_pf_2, m31]; omega, by rw [hd_pf_2, m32]; omega, ?_⟩, fun g => absurd g (by decide)⟩) (fun p2 => ⟨fun g => absurd rfl g, fun _ => vX9_unlike_125 hx _ _ _ _ 0 0 ⟨by omega, ?_⟩⟩)⟩⟩
          · rw [if_pos p2] at nx
            simp only [tq_sm, Int.add_zero] at nx
            have r1 : ((ab_pf m 0 0).2 31).2 t = e.1 := q1
            have r2 : ((ab_pf m 0 0).2 32).2 t = e.2.1 := q2
            rw [r1, r2]
            have yes : F e = true → ab_J x 118 [some (ab_O 0), some (ab_I what), none, some (ab_I t), none] [ab_I (tq_sm (fun e => if F e = true then 1 else 0) (((tr_A (sc_br b) (b.1 3)).take t).filter tr_jn))] [ab_pf m 0 0] 0 0 := fun g => by
              rw [if_pos g] at nx
              exact vX9_unlike_118 hx _ _ _ _ 0 0 (vX9_unlike_123 hx _ _ _ _ _ 0 0 ⟨by omega, vX9_unlike_125 hx _ _ _ _ 0 0 ⟨by omega, nx⟩⟩)
            have nay : ¬ F e = true → ab_J x 122 [some (ab_O 0), some (ab_I what), none, some (ab_I t), none] [ab_I (tq_sm (fun e => if F e = true then 1 else 0) (((tr_A (sc_br b) (b.1 3)).take t).filter tr_jn))] [ab_pf m 0 0] 0 0 := fun g => by
              rw [if_neg g] at nx
              exact vX9_unlike_122 hx _ _ _ _ 0 0 (vX9_unlike_123 hx _ _ _ _ _ 0 0 ⟨by omega, vX9_unlike_125 hx _ _ _ _ 0 0 ⟨by omega, nx⟩⟩)
            refine ⟨_, c9_keptAt d (m := ab_pf m 0 0) (n := b.1 3) (by omega) hkl hKK, fun r hr => ?_⟩
            obtain ⟨_, r', er, hj⟩ := hr
            cases er
            rcases hj with ⟨j1, j2⟩ | ⟨t', e', j1, j2, j3, j4⟩
            · refine ⟨fun g => vX9_unlike_91 hx _ _ _ _ _ 0 0 ⟨fun g2 => absurd (by omega) g2, fun g2 => ⟨fun _ => nay (fun y => ?_), fun g3 => absurd j1 g3⟩⟩, fun g => ⟨fun _ => yes ?_, fun g3 => absurd j1 g3⟩⟩
              · rw [F1 g2] at y
                obtain ⟨e', y1, y2, y3, _⟩ := jo_hd_iff.mp y
                exact j2 e' y1 ⟨y2, y3⟩
              · rw [F0 g]
                exact jo_no_iff.mpr j2
            · subst j1
              obtain ⟨z1, z2, z3, z4, z5⟩ := hKK.2.1 t' e' j2
              obtain ⟨wl, _⟩ := List.getElem?_eq_some_iff.mp j2
              rw [tr_B_len c n1] at wl
              refine ⟨fun g => vX9_unlike_91 hx _ _ _ _ _ 0 0 ⟨fun g2 => absurd (by omega) g2, fun g2 => ⟨fun g3 => absurd g3 (by omega), fun _ => ⟨by rw [hd_pf_2, k48]; omega, by rw [hd_pf_2, m33]; omega, ?_⟩⟩⟩, fun g => ⟨fun g3 => absurd g3 (by omega), fun _ => vX9_unlike_91 hx _ _ _ _ _ 0 0 ⟨fun _ => nay (fun y => ?_), fun g2 => absurd g2 (by omega)⟩⟩⟩
              · have s3 : ((ab_pf m 0 0).2 48).2 t' = e'.2.2.1 := z4
                have s4 : ((ab_pf m 0 0).2 33).2 t = e.2.2.1 := q3
                rw [s3, s4]
                refine ⟨fun g3 => nay (fun y => ?_), fun g3 => yes ?_⟩
                · rw [F1 g2] at y
                  obtain ⟨y0, y1, y2, y3, y4⟩ := jo_hd_iff.mp y
                  have := jo_uni hH'.1 hH'.2 y0 y1 e' (List.mem_of_getElem? j2) (by omega) (by omega)
                  subst this
                  exact y4 g3
                · rw [F1 g2]
                  exact jo_hd_iff.mpr ⟨e', List.mem_of_getElem? j2, j3, j4, g3⟩
              · rw [F0 g] at y
                exact jo_no_iff.mp y e' (List.mem_of_getElem? j2) ⟨j3, j4⟩
          · rw [if_neg p2] at nx
            simp only [tq_sm, Int.add_zero] at nx
            exact nx
      rcases w01 with e | e
      · exact key (jo_no (tr_B c (b.1 3))) (fun _ => rfl) (fun g => absurd g (by omega)) (tr_A (sc_br b) (b.1 3)).length 0 (by omega)
      · exact key (jo_hd (tr_B c (b.1 3))) (fun g => absurd g (by omega)) (fun _ => rfl) (tr_A (sc_br b) (b.1 3)).length 0 (by omega)
def an_keptBreaks (b : ab_Ob) (K : Prop) (c : Int → Int → Int → Int → Int) (RT : Int × Int) : Prop := (¬ K ∧ RT = (-1, 1)) ∨ (K ∧ RT = (tq_sm (tq_br b c) (tr_B c (b.1 3)), 0))
theorem c9_keptBreaks (d : Nat) {b m : ab_Ob} {K : Prop} {c : Int → Int → Int → Int → Int} (h : mi_S b m) (hk : mk_S b m K c) {RT : Int × Int} (hRT : an_keptBreaks b K c RT) : ab_Ct (d + 4) 0 0 mX9_keptBreaks [ab_O 0] [m] (ab_Is RT.1 [md_an m RT.2]) := by
  have no : ¬ K → ((-1 : Int), (1 : Int)) = RT := fun g => by
    rcases hRT with ⟨_, e⟩ | ⟨g2, _⟩
    · exact e.symm
    · exact absurd g2 g
  refine ab_ct kX9_keptBreaks rfl rfl (fun x hx => vX9_keptBreaks_0 hx m 0 0 ?_)
  rcases hk with ⟨hz, nK⟩ | ⟨⟨h14, h15⟩, hK, hkl, hKK⟩
  · exact ⟨fun _ => md_rf (no nK), fun g => ⟨fun g2 => absurd hz (by omega), fun _ => md_rf (no nK)⟩⟩
  · have hI : mi_I b m := by
      rcases h with ⟨h1, _, _⟩ | h
      · exact absurd h1 h14
      · exact h
    obtain ⟨i1, hb, hdd, n1, hp, hq, hT⟩ := id hI
    have hn := hb.2.1
    have hd := sc_dd_db hdd
    have eRT : RT = (tq_sm (tq_br b c) (tr_B c (b.1 3)), 0) := by
      rcases hRT with ⟨g, _⟩ | ⟨_, e⟩
      · exact absurd hK g
      · exact e
    have lenB := tr_B_len c n1
    have hH' := dp_H_in (c := c) (i := 0) (j := b.1 3 - 1) (by omega)
    obtain ⟨k45, k46, k47, k48, k49, k50⟩ := id hkl
    have e51 : m.1 51 = b.1 3 - 1 := hKK.1
    have bb : ∀ e ∈ tr_B c (b.1 3), (0 ≤ e.2.2.1 ∧ e.2.2.1 < b.1 3) ∧ (0 ≤ tr_un c e ∧ tr_un c e < b.1 3) ∧ (1 ≤ tq_l c e ∧ tq_l c e ≤ 24) ∧ (1 ≤ tq_r c e ∧ tq_r c e ≤ 24) ∧ (0 ≤ e.1 ∧ e.1 ≤ tq_sp c e ∧ tq_sp c e < e.2.1 ∧ e.2.1 < b.1 3) := fun e he => by
      obtain ⟨ok, lt⟩ := tr_J_ok hH'.1 hH'.2 he
      unfold tr_ok at ok
      have s := dp_sp_in (c := c) (h := e.2.2.1) lt
      have u := dp_un_in (c := c) (h := e.2.2.1) lt
      refine ⟨by omega, ?_, ?_, ?_, ?_⟩
      · unfold tr_un
        by_cases g : e.2.2.1 ≤ dp_sp c e.1 e.2.1 e.2.2.1
        · have := u.1 g; omega
        · have := u.2 g; omega
      · unfold tq_l tq_sp; omega
      · unfold tq_r tq_sp; omega
      · unfold tq_sp; omega
    have brb : ∀ e ∈ tr_B c (b.1 3), 0 ≤ tq_br b c e ∧ tq_br b c e ≤ 60000 := fun e he => by
      obtain ⟨x1, x2, x3, x4, x5⟩ := bb e he
      exact sc_br_cb hb hd _ _ _ _ x1.1 x1.2 x2.1 x2.2 x3.1 x3.2 x4.1 x4.2
    refine ⟨fun g => absurd g h14, fun _ => ⟨fun _ => ?_, fun g => absurd g h15⟩⟩
    have key : ∀ (q t : Nat), t + q = (tr_B c (b.1 3)).length → ab_J x 29 [some (ab_O 0), some (ab_I (tq_sm (tq_br b c) ((tr_B c (b.1 3)).take t))), some (ab_I t)] [] [ab_pf m 0 0] 0 0 := by
      intro q
      induction q with
      | zero =>
        intro t ht
        refine vX9_keptBreaks_29 hx _ _ _ 0 0 ⟨fun _ => md_gd ?_, fun g => absurd (by show m.1 51 ≤ _; omega) g⟩
        rw [eRT, List.take_of_length_le (by omega)]
      | succ q ih =>
        intro t ht
        have he := List.getElem?_eq_getElem (l := tr_B c (b.1 3)) (i := t) (by omega)
        generalize (tr_B c (b.1 3))[t] = e at he
        obtain ⟨r1, r2, r3, r4, r5⟩ := hKK.2.1 t e he
        have s1 : ((ab_pf m 0 0).2 45).2 t = e.1 := r1
        have s2 : ((ab_pf m 0 0).2 46).2 t = e.2.1 := r2
        have s3 : ((ab_pf m 0 0).2 47).2 t = tq_sp c e := r3
        have s4 : ((ab_pf m 0 0).2 48).2 t = e.2.2.1 := r4
        have s5 : ((ab_pf m 0 0).2 49).2 t = tr_un c e := r5
        obtain ⟨x1, x2, x3, x4, x5⟩ := bb e (List.mem_of_getElem? he)
        have nx := ih (t + 1) (by omega)
        rw [tq_sm_s _ he] at nx
        have b1 := brb e (List.mem_of_getElem? he)
        have sb := tq_sm_b (f := tq_br b c) (B := 60000) (L := (tr_B c (b.1 3)).take t) (fun y hy => brb y (List.mem_of_mem_take hy))
        have tl : ((tr_B c (b.1 3)).take t).length ≤ 24 := by rw [List.length_take]; omega
        refine vX9_keptBreaks_29 hx _ _ _ 0 0 ⟨fun g => absurd g (by show ¬ m.1 51 ≤ _; omega), fun _ => ?_⟩
        rw [s1, s2, s3, s4, s5]
        have cb := c9_brokenAll d b (ab_pf m 0 0) hb hd hp hq hT.1 x1 x2 x3 x4
        have el : tq_sp c e - e.1 + 1 = tq_l c e := by unfold tq_l; omega
        have er : e.2.1 - tq_sp c e = tq_r c e := rfl
        rw [el, er]
        exact ⟨by rw [hd_pf_2, k48]; omega, by rw [hd_pf_2, k49]; omega, by rw [hd_pf_2, k47]; omega, by rw [hd_pf_2, k45]; omega, by omega, by omega, by rw [hd_pf_2, k46]; omega, by rw [hd_pf_2, k47]; omega, by omega, ab_x1 cb ⟨by have b2 : 0 ≤ sc_br b e.2.2.1 (tr_un c e) (tq_l c e) (tq_r c e) ∧ sc_br b e.2.2.1 (tr_un c e) (tq_l c e) (tq_r c e) ≤ 60000 := b1; omega, by omega, nx⟩⟩
    exact key (tr_B c (b.1 3)).length 0 (by omega)
