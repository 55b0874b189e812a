/-! tries and laysOne -/
theorem hd_lim_lo {z : Int} (h : z ≤ 1000000000000) : hd_lim z = z := by unfold hd_lim; rw [if_neg (by omega)]
theorem hd_lim_hi {z : Int} (h : 1000000000000 < z) : hd_lim z = 1000000000000 := by unfold hd_lim; rw [if_pos h]
theorem hd_div_lim {o t : Int} (ht : 1 ≤ t) : (o ≤ Int.tdiv 1000000000000 t ↔ o * t ≤ 1000000000000) := by
  rw [Int.tdiv_eq_ediv_of_nonneg (by omega)]
  exact Int.le_ediv_iff_mul_le (by omega)
theorem md_tr_v (w : ab_Ob) (to by' s u ww : Int) :
    ((w.2 27).2 to < by' → md_tr w to by' s u ww = w) ∧
    (by' < (w.2 27).2 to → ((md_tr w to by' s u ww).2 27).2 to = by' ∧ ((md_tr w to by' s u ww).2 28).2 to = s ∧ ((md_tr w to by' s u ww).2 29).2 to = u ∧ ((md_tr w to by' s u ww).2 30).2 to = hd_lim (0 + ww)) ∧
    (by' = (w.2 27).2 to → ((md_tr w to by' s u ww).2 27).2 to = (w.2 27).2 to ∧ ((md_tr w to by' s u ww).2 28).2 to = (w.2 28).2 to ∧ ((md_tr w to by' s u ww).2 29).2 to = (w.2 29).2 to ∧ ((md_tr w to by' s u ww).2 30).2 to = hd_lim ((w.2 30).2 to + ww)) := by
  refine ⟨fun h => ?_, fun h => ?_, fun h => ?_⟩
  · unfold md_tr; rw [if_neg (by omega)]
  · unfold md_tr md_up
    rw [if_pos (by omega), if_pos h]
    simp [ab_pa, ab_ua, ab_ui]
  · unfold md_tr md_up
    rw [if_pos (by omega), if_neg (by omega)]
    simp [ab_pa, ab_ua, ab_ui]
/-- only the tables have changed, and only there -/
def md_at (m v : ab_Ob) (to : Int) : Prop := v.1 = m.1 ∧ (∀ f, f ≠ 27 → f ≠ 28 → f ≠ 29 → f ≠ 30 → v.2 f = m.2 f) ∧ (∀ f, (v.2 f).1 = (m.2 f).1) ∧ ∀ f (q : Int), q ≠ to → (v.2 f).2 q = (m.2 f).2 q
theorem md_at_0 (m : ab_Ob) (to : Int) : md_at m m to := ⟨rfl, fun _ _ _ _ _ => rfl, fun _ => rfl, fun _ _ _ => rfl⟩
theorem md_at_pa {m v : ab_Ob} {to z : Int} {g : Nat} (h : md_at m v to) (hg : g = 27 ∨ g = 28 ∨ g = 29 ∨ g = 30) : md_at m (ab_pa v g to z) to := by
  obtain ⟨h1, h2, h3, h4⟩ := h
  refine ⟨h1, fun f a b c d => ?_, fun f => by rw [hd_pa_len]; exact h3 f, fun f q hq => ?_⟩
  · rw [hd_pa_ne (by omega)]; exact h2 f a b c d
  · by_cases e : f = g
    · subst e
      rw [hd_pa_eq]
      show ab_ui (v.2 f).2 to z q = _
      rw [hd_ui_ne hq]; exact h4 f q hq
    · rw [hd_pa_ne e]; exact h4 f q hq
theorem md_at_tr {m v : ab_Ob} {to by' s u ww : Int} (h : md_at m v to) : md_at m (md_tr v to by' s u ww) to := by
  unfold md_tr md_up
  by_cases h1 : by' ≤ (v.2 27).2 to
  · rw [if_pos h1]
    by_cases h2 : by' < (v.2 27).2 to
    · rw [if_pos h2]
      exact md_at_pa (md_at_pa (md_at_pa (md_at_pa (md_at_pa h (by decide)) (by decide)) (by decide)) (by decide)) (by decide)
    · rw [if_neg h2]
      exact md_at_pa h (by decide)
  · rw [if_neg h1]; exact h
theorem md_at_p {b m v : ab_Ob} {to : Int} (h : md_at m v to) (hp : md_p b m) : md_p b v := by
  have e := h.2.1 3 (by decide) (by decide) (by decide) (by decide)
  unfold md_p
  rw [h.1, e]
  exact hp
theorem md_at_d {b m v : ab_Ob} {to : Int} (h : md_at m v to) (hp : md_d b m) : md_d b v := by
  have e := h.2.1 25 (by decide) (by decide) (by decide) (by decide)
  have e2 := h.2.1 26 (by decide) (by decide) (by decide) (by decide)
  unfold md_d
  rw [e, e2]
  exact hp
theorem md_at_len {m v : ab_Ob} {to : Int} (h : md_at m v to) (hp : md_len m) : md_len v := by
  unfold md_len
  rw [h.2.2.1, h.2.2.1, h.2.2.1, h.2.2.1, h.2.2.1, h.2.2.1, h.2.2.1]
  exact hp
theorem md_at_ce {m v : ab_Ob} {to : Int} (h : md_at m v to) {c : Int → Int → Int → Int → Int} {i j k : Int} (hne : md_cu i j k ≠ to) (hp : md_ce m c i j k) : md_ce v c i j k := by
  unfold md_ce
  rw [h.2.2.2 27 _ hne, h.2.2.2 28 _ hne, h.2.2.2 29 _ hne, h.2.2.2 30 _ hne]
  exact hp
theorem md_at_sub {m v : ab_Ob} {c : Int → Int → Int → Int → Int} {i j h : Int} (h0 : 0 ≤ i) (h1 : j ≤ 23) (h2 : i ≤ h) (h3 : h ≤ j) (hv : md_at m v (md_cu i j h)) (hp : md_sub m c i j) : md_sub v c i j := fun i' j' h' a1 a2 a3 a4 a5 a6 =>
  md_at_ce hv (fun e => by
    have := md_cu_inj (by omega) (by omega) (by omega) (by omega) e
    omega) (hp i' j' h' a1 a2 a3 a4 a5 a6)
theorem c9_tries (d : Nat) (b m : ab_Ob) (hb : sc_ok b) (hd : sc_db b) (hp : md_p b m) (hq : md_d b m) (hl : md_len m) {i j h s u : Int} (h0 : 0 ≤ i) (h1 : i ≤ s) (h2 : s < j) (h3 : j < b.1 3) (h4 : i ≤ h) (h5 : h ≤ j) (hu1 : md_fr i h s ≤ u) (hu2 : u < md_fr i h s + md_ln i j h s) (hT : md_sub m (sc_br b) i j) (hW : 0 ≤ (m.2 30).2 (md_cu i j h) ∧ (m.2 30).2 (md_cu i j h) ≤ 1000000000000) :
    ab_Ct (d + 5) 0 0 mX9_tries [ab_O 0, ab_I (md_cu i j h), ab_I i, ab_I j, ab_I h, ab_I s, ab_I u] [m] (ab_V1 (fun v => v = md_tr m (md_cu i j h) (dp_V (sc_br b) (dp_B (sc_br b)) i j h s u) s u (hd_lim (md_G (sc_br b) i j h s u)))) := by
  have hn := hb.2.1
  have hto := md_cu_b (i := i) (j := j) (h := h) (by omega) (by omega) (by omega)
  obtain ⟨n3, n25, n26, n27, n28, n29, n30⟩ := id hl
  have hev := sc_br_ev b
  have cj := c9_joinedBy d b m hb hd hp hq hl h0 h1 h2 h3 h4 h5 hu1 hu2 hT
  generalize dp_V (sc_br b) (dp_B (sc_br b)) i j h s u = V at cj ⊢
  generalize eto : md_cu i j h = to at hW hto ⊢
  refine ab_ct kX9_tries rfl rfl (fun x hx => ?_)
  have k163 : ∀ (w : ab_Ob) (ww : Int), (w.2 30).1 = 13824 → 0 ≤ (w.2 30).2 to → (w.2 30).2 to ≤ 1000000000000 → 0 ≤ ww → ww ≤ 1000000000000 → ab_pa w 30 to (hd_lim ((w.2 30).2 to + ww)) = md_tr m to V s u (hd_lim (md_G (sc_br b) i j h s u)) → ab_J x 163 [some (ab_O 0), some (ab_I to), none, none, none, none, none, none, none, none, none, none, some (ab_L ww), none] [] [w] 0 0 := by
    intro w ww l30 z0 z1 y0 y1 hQ
    refine vX9_tries_163 hx _ _ w 0 0 ⟨by omega, by omega, fun g => ⟨by omega, by omega, ?_⟩, fun g => ?_⟩
    · rw [ab_cmp_le] at g
      refine vX9_tries_199 hx _ _ w 0 0 ⟨by omega, ab_lv1 ?_⟩
      rw [← hQ]
      have : hd_lim ((w.2 30).2 to + ww) = (w.2 30).2 to + ww := by unfold hd_lim; rw [if_neg (by omega)]
      rw [this]
    · rw [ab_cmp_le] at g
      refine vX9_tries_199 hx _ _ w 0 0 ⟨by omega, ab_lv1 ?_⟩
      rw [← hQ]
      have : hd_lim ((w.2 30).2 to + ww) = 1000000000000 := by unfold hd_lim; rw [if_pos (by omega)]
      rw [this]
  have k119 : V ≤ (m.2 27).2 to → ∀ ww : Int, ww = hd_lim (md_G (sc_br b) i j h s u) → 0 ≤ ww → ww ≤ 1000000000000 → ab_J x 119 [some (ab_O 0), some (ab_I to), none, none, none, some (ab_I s), some (ab_I u), some (ab_I V), none, none, none, none, none, none] [ab_L ww] [m] 0 0 := by
    intro hle ww hww y0 y1
    refine vX9_tries_119 hx _ _ _ _ _ m 0 0 ⟨by omega, fun g => ?_, fun g => ⟨by omega, by omega, by omega, by omega, ?_⟩⟩
    · refine k163 m ww n30 hW.1 hW.2 y0 y1 ?_
      unfold md_tr md_up
      rw [if_pos hle, if_neg (by omega), hww]
    · refine k163 _ ww (by rw [hd_pa_len, hd_pa_len, hd_pa_len, hd_pa_len]; exact n30) (by rw [hd_pa_eq]; show 0 ≤ ab_ui _ to 0 to; rw [hd_ui_eq]; omega) (by rw [hd_pa_eq]; show ab_ui _ to 0 to ≤ _; rw [hd_ui_eq]; omega) y0 y1 ?_
      unfold md_tr md_up
      rw [if_pos hle, if_pos (by omega), hww]
  have k93 : V ≤ (m.2 27).2 to → ∀ (q A B : Int), 1 ≤ A → 1 ≤ B → 0 ≤ q → q < 13824 → (m.2 30).2 q = hd_lim B → A * B = md_G (sc_br b) i j h s u → ab_J x 93 [some (ab_O 0), some (ab_I to), none, none, none, some (ab_I s), some (ab_I u), some (ab_I V), some (ab_L (hd_lim A)), none, none, none, none, none] [ab_I q, ab_A 0 30] [m] 0 0 := by
    intro hle q A B hA hB q0 q1 eq eG
    have lA := hd_lim_b (z := A) (by omega)
    have lB := hd_lim_b (z := B) (by omega)
    have lA1 : 1 ≤ hd_lim A := by unfold hd_lim; split <;> omega
    have lB1 : 1 ≤ hd_lim B := by unfold hd_lim; split <;> omega
    have dv := hd_div_lim (o := hd_lim A) lB1
    have td : 0 ≤ Int.tdiv 1000000000000 (hd_lim B) ∧ Int.tdiv 1000000000000 (hd_lim B) ≤ 1000000000000 := by
      rw [Int.tdiv_eq_ediv_of_nonneg (by omega)]
      exact ⟨Int.ediv_nonneg (by omega) (by omega), Int.ediv_le_self _ (by omega)⟩
    have hm := hd_lim_mul hA hB
    have mb := hd_mul_le (a := hd_lim A) (b := hd_lim B) (A := 1000000000000) (B := 1000000000000) (by omega) (by omega) (by omega) (by omega)
    refine vX9_tries_93 hx _ _ _ _ _ _ m 0 0 ⟨by omega, by rw [eq]; omega, by rw [eq]; omega, fun g => ?_, fun g => ?_⟩
    · rw [eq, ab_cmp_le, dv] at g
      rw [eq]
      exact ⟨by omega, k119 hle _ (by rw [← eG, ← hm, hd_lim_lo g]) (by omega) (by omega)⟩
    · rw [eq, ab_cmp_le, dv] at g
      exact k119 hle _ (by rw [← eG, ← hm, hd_lim_hi (by omega)]) (by omega) (by omega)
  unfold md_fr at hu1 hu2
  unfold md_ln at hu2
  refine vX9_tries_0 hx _ _ _ _ _ _ m 0 0 (ab_x1 cj ⟨by omega, fun hle => ⟨fun g => ⟨by omega, ab_x1 (c9_cube (d + 3) (by omega) (by omega) (by omega)) ?_⟩, fun g => ab_x1 (c9_cube (d + 3) (by omega) (by omega) (by omega)) ?_⟩, fun hle => ab_lv1 ?_⟩)
  · rw [if_neg (by omega)] at hu1 hu2
    rw [if_neg (by omega)] at hu2
    have t1 := (hT (s + 1) j h (by omega) (by omega) (by omega) (by omega) (by omega) (by omega)).2.2.2
    have t2 := (hT i s u (by omega) (by omega) (by omega) (by omega) (by omega) (by omega)).2.2.2
    have d1 := md_cu_b (i := s + 1) (j := j) (h := h) (by omega) (by omega) (by omega)
    have d2 := md_cu_b (i := i) (j := s) (h := u) (by omega) (by omega) (by omega)
    refine vX9_tries_58 hx _ _ _ _ _ _ _ _ m 0 0 ⟨by omega, fun _ => ab_x1 (c9_cube (d + 3) (by omega) (by omega) (by omega)) ?_, fun g2 => absurd g g2⟩
    rw [t1]
    exact k93 hle _ (dw_W (sc_br b) (s + 1) j h) (dw_W (sc_br b) i s u) (dw_pos hev (j - (s + 1)).toNat _ _ _ (by omega) (by omega) (by omega) (by omega) (by omega)) (dw_pos hev (s - i).toNat _ _ _ (by omega) (by omega) (by omega) (by omega) (by omega)) d2.1 d2.2 t2 (by unfold md_G; rw [if_neg (by omega)])
  · rw [if_pos (by omega)] at hu1 hu2
    rw [if_pos (by omega)] at hu2
    have t1 := (hT i s h (by omega) (by omega) (by omega) (by omega) (by omega) (by omega)).2.2.2
    have t2 := (hT (s + 1) j u (by omega) (by omega) (by omega) (by omega) (by omega) (by omega)).2.2.2
    have d1 := md_cu_b (i := i) (j := s) (h := h) (by omega) (by omega) (by omega)
    have d2 := md_cu_b (i := s + 1) (j := j) (h := u) (by omega) (by omega) (by omega)
    refine vX9_tries_58 hx _ _ _ _ _ _ _ _ m 0 0 ⟨by omega, fun g2 => absurd g2 g, fun _ => ⟨by omega, ab_x1 (c9_cube (d + 3) (by omega) (by omega) (by omega)) ?_⟩⟩
    rw [t1]
    exact k93 hle _ (dw_W (sc_br b) i s h) (dw_W (sc_br b) (s + 1) j u) (dw_pos hev (s - i).toNat _ _ _ (by omega) (by omega) (by omega) (by omega) (by omega)) (dw_pos hev (j - (s + 1)).toNat _ _ _ (by omega) (by omega) (by omega) (by omega) (by omega)) d2.1 d2.2 t2 (by unfold md_G; rw [if_pos (by omega)])
  · unfold md_tr
    rw [if_neg (by omega)]
theorem c9_laysOne (d : Nat) (b m : ab_Ob) (hb : sc_ok b) (hd : sc_db b) (hp : md_p b m) (hq : md_d b m) (hl : md_len m) {i j h : Int} (h0 : 0 ≤ i) (h1 : i ≤ j) (h3 : j < b.1 3) (h4 : i ≤ h) (h5 : h ≤ j) (hT : md_sub m (sc_br b) i j) :
    ab_Ct (d + 6) 0 0 mX9_laysOne [ab_O 0, ab_I i, ab_I j, ab_I h] [m] (ab_V1 (fun v => md_at m v (md_cu i j h) ∧ md_ce v (sc_br b) i j h)) := by
  have hn := hb.2.1
  have hto := md_cu_b (i := i) (j := j) (h := h) (by omega) (by omega) (by omega)
  obtain ⟨n3, n25, n26, n27, n28, n29, n30⟩ := id hl
  have hev := sc_br_ev b
  have hc := sc_br_cb hb hd
  have hG : ∀ (m k : Nat) (s u : Int), k ≤ md_ln i j h (i + m) → i + m < j → lx_in (fun s => md_fr i h s) (fun s => md_ln i j h s) i m k s u → 0 ≤ md_G (sc_br b) i j h s u := by
    intro m k s u hk hm hi
    have hh : i ≤ s ∧ s < j ∧ md_fr i h s ≤ u ∧ u < md_fr i h s + md_ln i j h s := by
      obtain ⟨a1, a2 | ⟨rfl, a3⟩⟩ := hi
      · exact ⟨a2.1, by omega, a1, a2.2.2⟩
      · exact ⟨by omega, hm, a1, by dsimp only at a1 a3; omega⟩
    obtain ⟨b1, b2, b3, b4⟩ := hh
    unfold md_fr at b3 b4
    unfold md_ln at b4
    unfold md_G
    split
    · rename_i g
      rw [if_pos g] at b3 b4
      rw [if_pos g] at b4
      have x1 := dw_W_1 (c := sc_br b) b1 (by omega : s - i ≤ 23) h4 g
      have x2 := dw_W_1 (c := sc_br b) (by omega : s + 1 ≤ j) (by omega) b3 (by omega)
      exact Int.mul_nonneg x1 x2
    · rename_i g
      rw [if_neg g] at b3 b4
      rw [if_neg g] at b4
      have x1 := dw_W_1 (c := sc_br b) (h := h) (by omega : s + 1 ≤ j) (by omega) (by omega) h5
      have x2 := dw_W_1 (c := sc_br b) (h := u) b1 (by omega : s - i ≤ 23) b3 (by omega)
      exact Int.mul_nonneg x1 x2
  refine ab_ct kX9_laysOne rfl rfl (fun x hx => ?_)
  have k65 : ∀ (q m' : Nat) (v : ab_Ob), i + m' + q = j → i < j → md_at m v (md_cu i j h) → lx_inv (fun s u => dp_V (sc_br b) (dp_B (sc_br b)) i j h s u) (fun s u => md_G (sc_br b) i j h s u) (fun s => md_fr i h s) (fun s => md_ln i j h s) 1000000000 i m' 0 ((v.2 27).2 (md_cu i j h)) ((v.2 28).2 (md_cu i j h)) ((v.2 29).2 (md_cu i j h)) ((v.2 30).2 (md_cu i j h)) → ab_J x 65 [some (ab_O 0), some (ab_I i), some (ab_I j), some (ab_I h), some (ab_I (md_cu i j h)), some (ab_I (i + m')), none, none, none] [] [v] 0 0 := by
    intro q
    induction q with
    | zero =>
      intro m' v hm hij hv hx'
      have e := md_end hev hij (by omega) (by omega) h4 h5 hx'
      refine vX9_laysOne_65 hx _ _ _ _ _ v 0 0 ⟨fun _ => ab_lv1 ⟨hv, e.1, ?_, ?_, e.2.2.2⟩, fun g => absurd (by omega) g⟩
      · rw [if_pos hij]; exact e.2.1
      · rw [if_pos hij]; exact e.2.2.1
    | succ q ih =>
      intro m' v hm hij hv hx'
      have k105 : ∀ (p k : Nat) (v : ab_Ob), k + p = md_ln i j h (i + m') → md_at m v (md_cu i j h) → lx_inv (fun s u => dp_V (sc_br b) (dp_B (sc_br b)) i j h s u) (fun s u => md_G (sc_br b) i j h s u) (fun s => md_fr i h s) (fun s => md_ln i j h s) 1000000000 i m' k ((v.2 27).2 (md_cu i j h)) ((v.2 28).2 (md_cu i j h)) ((v.2 29).2 (md_cu i j h)) ((v.2 30).2 (md_cu i j h)) → ab_J x 105 [some (ab_O 0), some (ab_I i), some (ab_I j), some (ab_I h), some (ab_I (md_cu i j h)), some (ab_I (i + m')), none, some (ab_I (md_fr i h (i + m') + md_ln i j h (i + m') - 1)), some (ab_I (md_fr i h (i + m') + k))] [] [v] 0 0 := by
        have bl : 1 ≤ md_ln i j h (i + m') ∧ i ≤ md_fr i h (i + m') ∧ md_fr i h (i + m') + md_ln i j h (i + m') ≤ j + 1 := by
          unfold md_fr md_ln
          split <;> omega
        intro p
        induction p with
        | zero =>
          intro k v hk hv hx'
          have ek : k = md_ln i j h (i + m') := by omega
          subst ek
          refine vX9_laysOne_105 hx _ _ _ _ _ _ _ v 0 0 ⟨fun _ => ⟨by omega, ?_⟩, fun g => absurd (by omega) g⟩
          have := ih (m' + 1) v (by push_cast; omega) hij hv (lx_next hx')
          have e : i + ((m' + 1 : Nat) : Int) = i + m' + 1 := by omega
          rw [e] at this
          exact this
        | succ p ihp =>
          intro k v hk hv hx'
          have vb := dp_V_b (u := md_fr i h (i + m') + k) (by omega) hc h0 (by omega : i ≤ i + m') (by omega) h3 h4 h5 (by omega) (by omega)
          have hWb : 0 ≤ (v.2 30).2 (md_cu i j h) ∧ (v.2 30).2 (md_cu i j h) ≤ 1000000000000 := by
            rw [hx'.2.2]
            have gs := lx_sum_nn (V := fun s u => dp_V (sc_br b) (dp_B (sc_br b)) i j h s u) (G := fun s u => md_G (sc_br b) i j h s u) (fr := fun s => md_fr i h s) (ln := fun s => md_ln i j h s) (B := (v.2 27).2 (md_cu i j h)) (i := i) (m := m') (k := k) (fun s u hi => hG _ _ s u (by omega) (by omega) hi)
            have := hd_lim_b gs
            omega
          refine vX9_laysOne_105 hx _ _ _ _ _ _ _ v 0 0 ⟨fun g => absurd g (by omega), fun _ => ab_xv1 (c9_tries d b v hb hd (md_at_p hv hp) (md_at_d hv hq) (md_at_len hv hl) h0 (by omega) (by omega) h3 h4 h5 (by omega) (by omega) (md_at_sub h0 (by omega) h4 h5 hv hT) hWb) (fun v' hv' => ⟨by omega, ?_⟩)⟩
          have st := lx_step hx' rfl (by show dp_V (sc_br b) (dp_B (sc_br b)) i j h (i + m') (md_fr i h (i + m') + k) < 1000000000; omega) (fun s u hi => hG _ _ s u (by omega) (by omega) hi)
          have tv := md_tr_v v (md_cu i j h) (dp_V (sc_br b) (dp_B (sc_br b)) i j h (i + m') (md_fr i h (i + m') + k)) (i + m') (md_fr i h (i + m') + k) (hd_lim (md_G (sc_br b) i j h (i + m') (md_fr i h (i + m') + k)))
          rw [← hv'] at tv
          have := ihp (k + 1) v' (by omega) (by rw [hv']; exact md_at_tr hv) (by
            rcases Int.lt_trichotomy ((v.2 27).2 (md_cu i j h)) (dp_V (sc_br b) (dp_B (sc_br b)) i j h (i + m') (md_fr i h (i + m') + k)) with c | c | c
            · rw [tv.1 c]; exact st.1 c
            · obtain ⟨e1, e2, e3, e4⟩ := tv.2.2 c.symm
              rw [e1, e2, e3, e4]; exact st.2.2 c.symm
            · obtain ⟨e1, e2, e3, e4⟩ := tv.2.1 c
              rw [e1, e2, e3, e4]; exact st.2.1 c)
          have e : md_fr i h (i + m') + ((k + 1 : Nat) : Int) = md_fr i h (i + m') + k + 1 := by omega
          rw [e] at this
          exact this
      have k0 := k105 (md_ln i j h (i + m')) 0 v (by omega) hv hx'
      refine vX9_laysOne_65 hx _ _ _ _ _ v 0 0 ⟨fun g => absurd g (by omega), fun _ => ⟨fun g => ?_, fun g => ⟨by omega, ?_⟩⟩⟩
      · refine vX9_laysOne_85 hx _ _ _ _ _ _ v 0 0 ⟨fun _ => ?_, fun g2 => absurd g g2⟩
        refine vX9_laysOne_99 hx _ _ _ _ _ _ _ v 0 0 ?_
        have e1 : md_fr i h (i + m') = i := by unfold md_fr; rw [if_neg (by omega)]
        have e2 : ((md_ln i j h (i + m') : Nat) : Int) = m' + 1 := by unfold md_ln; rw [if_neg (by omega)]; omega
        have e3 : i + ((m' : Int) + 1) - 1 = i + m' := by omega
        rw [e2, e1, e3] at k0
        simpa using k0
      · refine vX9_laysOne_85 hx _ _ _ _ _ _ v 0 0 ⟨fun g2 => absurd g2 g, fun _ => ?_⟩
        refine vX9_laysOne_99 hx _ _ _ _ _ _ _ v 0 0 ?_
        have e1 : md_fr i h (i + m') = i + m' + 1 := by unfold md_fr; rw [if_pos (by omega)]
        have e2 : ((md_ln i j h (i + m') : Nat) : Int) = j - (i + m') := by unfold md_ln; rw [if_pos (by omega)]; omega
        have e3 : i + (m' : Int) + 1 + (j - (i + m')) - 1 = j := by omega
        rw [e2, e1, e3] at k0
        simpa using k0
  refine vX9_laysOne_0 hx i j h m 0 0 (ab_x1 (c9_cube (d + 4) (by omega) (by omega) (by omega)) ⟨fun g => ?_, fun g => ?_⟩)
  · refine vX9_laysOne_26 hx _ _ _ _ _ _ m 0 0 ⟨by omega, by omega, by omega, fun _ => ?_, fun g2 => absurd g2 g⟩
    refine vX9_laysOne_61 hx _ _ _ _ _ _ _ 0 0 ⟨by rw [hd_pa_len, hd_pa_len, hd_pa_len]; omega, ?_⟩
    have k0 := k65 (j - i).toNat 0 (ab_pa (ab_pa (ab_pa (ab_pa m 27 (md_cu i j h) 1000000000) 28 (md_cu i j h) (-2)) 29 (md_cu i j h) (-2)) 30 (md_cu i j h) 0) (by omega) (by omega) (md_at_pa (md_at_pa (md_at_pa (md_at_pa (md_at_0 m _) (by decide)) (by decide)) (by decide)) (by decide)) (by
      have e1 : ((ab_pa (ab_pa (ab_pa (ab_pa m 27 (md_cu i j h) 1000000000) 28 (md_cu i j h) (-2)) 29 (md_cu i j h) (-2)) 30 (md_cu i j h) 0).2 27).2 (md_cu i j h) = 1000000000 := by simp [ab_pa, ab_ua, ab_ui]
      have e2 : ((ab_pa (ab_pa (ab_pa (ab_pa m 27 (md_cu i j h) 1000000000) 28 (md_cu i j h) (-2)) 29 (md_cu i j h) (-2)) 30 (md_cu i j h) 0).2 30).2 (md_cu i j h) = 0 := by simp [ab_pa, ab_ua, ab_ui]
      rw [e1, e2]
      exact lx_0 _ _ _ _ _ _ _ _)
    simpa using k0
  · subst g
    refine vX9_laysOne_26 hx _ _ _ _ _ _ m 0 0 ⟨by omega, by omega, by omega, fun g2 => absurd rfl g2, fun _ => ?_⟩
    refine vX9_laysOne_61 hx _ _ _ _ _ _ _ 0 0 ⟨by rw [hd_pa_len, hd_pa_len, hd_pa_len]; omega, ?_⟩
    refine vX9_laysOne_65 hx _ _ _ _ _ _ 0 0 ⟨fun _ => ab_lv1 ⟨md_at_pa (md_at_pa (md_at_pa (md_at_pa (md_at_0 m _) (by decide)) (by decide)) (by decide)) (by decide), ?_⟩, fun g => absurd (by omega) g⟩
    unfold md_ce
    rw [if_neg (by omega), if_neg (by omega), dp_B_0, dw_W_0]
    simp [ab_pa, ab_ua, ab_ui, hd_lim]
