/-! SWAY: the class -/
theorem ab_pa_back (b : ab_Ob) (f : Nat) (q v : Int) : ab_pa (ab_pa b f q v) f q ((b.2 f).2 q) = b := by
  obtain ⟨b1, b2⟩ := b
  simp only [ab_pa]
  congr 1
  funext g
  by_cases hg : g = f
  · subst hg
    simp only [ab_ua, if_true]
    refine Prod.ext rfl ?_
    funext z
    by_cases hz : z = q
    · subst hz; simp [ab_ui]
    · simp [ab_ui, hz]
  · simp [ab_ua, hg]
theorem sc_un_w (b : ab_Ob) (rule v q h u l r : Int) : sc_un (ab_pa b 6 rule v) q h u l r = sc_un b q h u l r := rfl
def sw_c0 (b : ab_Ob) (rule : Int) : Int → Int → Int → Int → Int := sc_br (ab_pa b 6 rule 0)
/-- breaks with another weight -/
theorem sw_cv (b : ab_Ob) {rule : Int} (hr : 0 ≤ rule ∧ rule < 6) (v : Int) : sc_br (ab_pa b 6 rule v) = sw_c (sw_c0 b rule) (sc_un b rule) v := by
  funext h u l r
  unfold sw_c sw_c0 sc_br
  simp only [sc_un_w, hd_sm, hd_pa_eq, ab_ui]
  have : rule = 0 ∨ rule = 1 ∨ rule = 2 ∨ rule = 3 ∨ rule = 4 ∨ rule = 5 := by omega
  rcases this with e | e | e | e | e | e <;> subst e <;> simp <;> omega
theorem sc_ok_w {b : ab_Ob} (hb : sc_ok b) {rule v : Int} (hv : 0 ≤ v ∧ v ≤ 99) : sc_ok (ab_pa b 6 rule v) := by
  obtain ⟨⟨n4, n5, n6, n7, n8, n9⟩, h2, h3, h4, h5, h6, h7⟩ := hb
  refine ⟨⟨by rw [hd_pa_len]; exact n4, by rw [hd_pa_len]; exact n5, by rw [hd_pa_len]; exact n6, by rw [hd_pa_len]; exact n7, by rw [hd_pa_len]; exact n8, by rw [hd_pa_len]; exact n9⟩, h2, h3, h4, h5, fun k k0 k1 => ?_, fun r r0 r1 => ?_⟩
  · rw [hd_pa_ne (by decide), hd_pa_ne (by decide)]
    exact h6 k k0 k1
  · rw [hd_pa_eq]
    show 0 ≤ ab_ui (b.2 6).2 rule v r ∧ ab_ui (b.2 6).2 rule v r ≤ 99
    by_cases e : r = rule
    · subst e; rw [hd_ui_eq]; exact hv
    · rw [hd_ui_ne e]; exact h7 r r0 r1
theorem sc_dd_w {b : ab_Ob} (hd : sc_dd b) (rule v : Int) : sc_dd (ab_pa b 6 rule v) := fun k k0 k1 => by
  have := hd k k0 k1
  rw [hd_pa_ne (by decide), hd_pa_ne (by decide), hd_pa_ne (by decide), hd_pa_ne (by decide), hd_pa_ne (by decide)]
  exact this
def sw_ln (w : ab_Ob) : Prop := (w.2 2).1 = 600 ∧ (w.2 3).1 = 600 ∧ (w.2 4).1 = 600 ∧ (w.2 5).1 = 600
def sw_kn (w : ab_Ob) (rule v : Int) : Prop := (w.2 2).1 = 600 ∧ (w.2 2).2 (rule * 100 + v) ≠ 0
/-- what is known of a weight is right -/
def sw_ent (b w : ab_Ob) (rule v : Int) : Prop := (w.2 3).2 (rule * 100 + v) = sw_H (sw_c0 b rule) (sc_un b rule) 0 (b.1 3 - 1) v ∧ (w.2 4).2 (rule * 100 + v) = sw_B (sw_c0 b rule) (sc_un b rule) 0 (b.1 3 - 1) v ∧ (w.2 5).2 (rule * 100 + v) = sw_S (sw_c0 b rule) (sc_un b rule) 0 (b.1 3 - 1) v
def sw_ok (b w0 w1 w2 : ab_Ob) : Prop := (w0.2 6).1 = 100 ∧ tb_len w2 ∧ ((sw_ln w0 ∧ ch_len w1) ∨ ((w0.2 2).1 = 0 ∧ ch_st w1)) ∧ ∀ rule v : Int, 0 ≤ rule → rule < 6 → 0 ≤ v → v ≤ 99 → sw_kn w0 rule v → sw_ent b w0 rule v
def sw_k (w : ab_Ob) : Nat := if 600 ≤ (w.2 2).1 then 0 else 4
def sw_s (w : ab_Ob) : Nat := if 600 ≤ (w.2 2).1 then 0 else 2400
abbrev ab_V4 (b : ab_Ob) (P : ab_Ob → ab_Ob → ab_Ob → Prop) : Option ab_V → List ab_Ob → Prop := fun rv w => rv = none ∧ ∃ v0 v1 v2, w = [v0, v1, v2, b] ∧ P v0 v1 v2
theorem ab_lv4 {w0 w1 w2 b v0 v1 v2 : ab_Ob} {P : ab_Ob → ab_Ob → ab_Ob → Prop} (h : P v0 v1 v2) : ((none : Option ab_V) = none ∧ ab_shw [true, true, true, true] [w0, w1, w2, b] [v0, v1, v2, b]) ∧ ((none : Option ab_V) = none ∧ ∃ u0 u1 u2, [v0, v1, v2, b] = [u0, u1, u2, b] ∧ P u0 u1 u2) := ⟨⟨rfl, v0, _, rfl, v1, _, rfl, v2, _, rfl, b, _, rfl, rfl⟩, rfl, v0, v1, v2, rfl, h⟩
theorem ab_xv4 {d mc ms : Nat} {M : ab_M} {as : List ab_V} {ws : List ab_Ob} {b : ab_Ob} {P : ab_Ob → ab_Ob → ab_Ob → Prop} {K : ab_Ob → ab_Ob → ab_Ob → ab_Ob → Prop} (h : ab_Ct d mc ms M as ws (ab_V4 b P)) (k : ∀ v0 v1 v2, P v0 v1 v2 → K v0 v1 v2 b) : ∃ Q : Option ab_V → List ab_Ob → Prop, ab_Ct d mc ms M as ws Q ∧ ∀ v0 v1 v2 v3 : ab_Ob, Q none [v0, v1, v2, v3] → K v0 v1 v2 v3 :=
  ⟨_, h, fun v0 v1 v2 v3 hv => by
    obtain ⟨_, u0, u1, u2, hu, hp⟩ := hv
    cases hu
    exact k _ _ _ hp⟩
abbrev ab_V3 (w1 w2 : ab_Ob) (P : ab_Ob → Prop) : Option ab_V → List ab_Ob → Prop := fun rv w => rv = none ∧ ∃ v, w = [v, w1, w2] ∧ P v
theorem ab_lv3 {w v w1 w2 : ab_Ob} {P : ab_Ob → Prop} (h : P v) : ((none : Option ab_V) = none ∧ ab_shw [true, false, false] [w, w1, w2] [v, w1, w2]) ∧ ((none : Option ab_V) = none ∧ ∃ u, [v, w1, w2] = [u, w1, w2] ∧ P u) := ⟨⟨rfl, v, _, rfl, _, rfl, _, rfl, rfl⟩, rfl, v, rfl, h⟩
theorem ab_xv3 {d mc ms : Nat} {M : ab_M} {as : List ab_V} {ws : List ab_Ob} {w1 w2 : ab_Ob} {P : ab_Ob → Prop} {K : ab_Ob → Prop} (h : ab_Ct d mc ms M as ws (ab_V3 w1 w2 P)) (k : ∀ v, P v → K v) : ∃ Q : Option ab_V → List ab_Ob → Prop, ab_Ct d mc ms M as ws Q ∧ ∀ v : ab_Ob, Q none [v, w1, w2] → K v :=
  ⟨_, h, fun v hv => by
    obtain ⟨_, u, hu, hp⟩ := hv
    cases hu
    exact k v hp⟩
/-- what learning a weight leaves -/
def sw_le (b w0 : ab_Ob) (rule v : Int) (v0 v1 v2 : ab_Ob) : Prop := sw_ok b v0 v1 v2 ∧ sw_ln v0 ∧ ch_len v1 ∧ sw_kn v0 rule v ∧ (∀ r' v' : Int, sw_kn w0 r' v' → sw_kn v0 r' v') ∧ v0.2 6 = w0.2 6
/-- a weight that is learned -/
theorem sw_putc {b w0 u : ab_Ob} {rule v r1 r2 r3 : Int} (hr : 0 ≤ rule ∧ rule < 6) (hv : 0 ≤ v ∧ v ≤ 99) (hl : sw_ln w0) (hk : ∀ rule v : Int, 0 ≤ rule → rule < 6 → 0 ≤ v → v ≤ 99 → sw_kn w0 rule v → sw_ent b w0 rule v)
    (f2 : (u.2 2).2 = ab_ui (w0.2 2).2 (rule * 100 + v) 1) (f3 : (u.2 3).2 = ab_ui (w0.2 3).2 (rule * 100 + v) r1) (f4 : (u.2 4).2 = ab_ui (w0.2 4).2 (rule * 100 + v) r2) (f5 : (u.2 5).2 = ab_ui (w0.2 5).2 (rule * 100 + v) r3) (ln : ∀ g, (u.2 g).1 = (w0.2 g).1)
    (e1 : r1 = sw_H (sw_c0 b rule) (sc_un b rule) 0 (b.1 3 - 1) v) (e2 : r2 = sw_B (sw_c0 b rule) (sc_un b rule) 0 (b.1 3 - 1) v) (e3 : r3 = sw_S (sw_c0 b rule) (sc_un b rule) 0 (b.1 3 - 1) v) : sw_ln u ∧ (∀ r' v' : Int, 0 ≤ r' → r' < 6 → 0 ≤ v' → v' ≤ 99 → sw_kn u r' v' → sw_ent b u r' v') ∧ sw_kn u rule v ∧ ∀ r' v' : Int, sw_kn w0 r' v' → sw_kn u r' v' := by
  obtain ⟨l2, l3, l4, l5⟩ := id hl
  have ln' : sw_ln u := ⟨by rw [ln]; exact l2, by rw [ln]; exact l3, by rw [ln]; exact l4, by rw [ln]; exact l5⟩
  refine ⟨ln', fun r' v' a1 a2 a3 a4 hkn => ?_, ⟨ln'.1, by rw [f2, hd_ui_eq]; decide⟩, fun r' v' hkn => ⟨ln'.1, ?_⟩⟩
  · unfold sw_ent
    rw [f3, f4, f5]
    by_cases e : r' * 100 + v' = rule * 100 + v
    · have er : r' = rule := by omega
      have ev : v' = v := by omega
      subst er; subst ev
      rw [hd_ui_eq, hd_ui_eq, hd_ui_eq]
      exact ⟨e1, e2, e3⟩
    · rw [hd_ui_ne e, hd_ui_ne e, hd_ui_ne e]
      refine hk r' v' a1 a2 a3 a4 ⟨l2, ?_⟩
      have := hkn.2
      rw [f2, hd_ui_ne e] at this
      exact this
  · rw [f2]
    by_cases e : r' * 100 + v' = rule * 100 + v
    · rw [e, hd_ui_eq]; decide
    · rw [hd_ui_ne e]; exact hkn.2
theorem sw_put {b w0 w1' w2' : ab_Ob} {rule v r1 r2 r3 : Int} (hr : 0 ≤ rule ∧ rule < 6) (hv : 0 ≤ v ∧ v ≤ 99) (h6 : (w0.2 6).1 = 100) (hl : sw_ln w0) (hc : ch_len w1') (ht : tb_len w2') (hk : ∀ rule v : Int, 0 ≤ rule → rule < 6 → 0 ≤ v → v ≤ 99 → sw_kn w0 rule v → sw_ent b w0 rule v)
    (e1 : r1 = sw_H (sw_c0 b rule) (sc_un b rule) 0 (b.1 3 - 1) v) (e2 : r2 = sw_B (sw_c0 b rule) (sc_un b rule) 0 (b.1 3 - 1) v) (e3 : r3 = sw_S (sw_c0 b rule) (sc_un b rule) 0 (b.1 3 - 1) v) : sw_le b w0 rule v (ab_pa (ab_pa (ab_pa (ab_pa w0 3 (rule * 100 + v) r1) 4 (rule * 100 + v) r2) 5 (rule * 100 + v) r3) 2 (rule * 100 + v) 1) w1' w2' := by
  have f6 : (ab_pa (ab_pa (ab_pa (ab_pa w0 3 (rule * 100 + v) r1) 4 (rule * 100 + v) r2) 5 (rule * 100 + v) r3) 2 (rule * 100 + v) 1).2 6 = w0.2 6 := by simp [ab_pa, ab_ua]
  obtain ⟨q1, q2, q3, q4⟩ := sw_putc (b := b) (w0 := w0) (u := ab_pa (ab_pa (ab_pa (ab_pa w0 3 (rule * 100 + v) r1) 4 (rule * 100 + v) r2) 5 (rule * 100 + v) r3) 2 (rule * 100 + v) 1) hr hv hl hk (by simp [ab_pa, ab_ua]) (by simp [ab_pa, ab_ua]) (by simp [ab_pa, ab_ua]) (by simp [ab_pa, ab_ua]) (fun g => by rw [hd_pa_len, hd_pa_len, hd_pa_len, hd_pa_len]) e1 e2 e3
  exact ⟨⟨by rw [f6]; exact h6, ht, Or.inl ⟨q1, hc⟩, q2⟩, q1, hc, q3, q4, f6⟩
theorem c_learn (d : Nat) (b w0 w1 w2 : ab_Ob) (hb : sc_ok b) (hdd : sc_dd b) (hn1 : 1 ≤ b.1 3) (hw : sw_ok b w0 w1 w2) {rule v : Int} (hr : 0 ≤ rule ∧ rule < 6) (hv : 0 ≤ v ∧ v ≤ 99) : ab_Ct (d + 7) (sw_k w0 + ch_k w1) (sw_s w0 + ch_s w1) mX6_learn [ab_O 0, ab_O 3, ab_I rule, ab_I v] [w0, w1, w2, b] (ab_V4 b (sw_le b w0 rule v)) := by
  obtain ⟨h6, ht, hm, hk⟩ := hw
  have hn := hb.2.1
  have n6 := hb.1.2.2.1
  have hb' := sc_ok_w hb (rule := rule) hv
  have hd' := sc_dd_w hdd rule v
  have hc := sc_br_cb hb' (sc_dd_db hd')
  have hev := sc_br_ev (ab_pa b 6 rule v)
  have he := hb'.2.2.2.2.2.2 4 (by omega) (by omega)
  have ecv := sw_cv b hr v
  have en : (ab_pa b 6 rule v).1 3 = b.1 3 := rfl
  refine ab_ct kX6_learn rfl rfl (fun x hx => ?_)
  have k47 : ∀ (u : ab_Ob) (kc ks : Nat), kc + ch_k w1 ≤ sw_k w0 + ch_k w1 → ks + ch_s w1 ≤ sw_s w0 + ch_s w1 → (u.2 6) = (w0.2 6) → sw_ln u → ch_st w1 → (∀ r' v' : Int, sw_kn w0 r' v' → sw_kn u r' v') → (∀ rule v : Int, 0 ≤ rule → rule < 6 → 0 ≤ v → v ≤ 99 → sw_kn u rule v → sw_ent b u rule v ∧ ch_len w1) → ab_J x 47 [some (ab_O 0), some (ab_O 3), some (ab_I rule), some (ab_I v), none, none] [] [u, w1, w2, b] kc ks := by
    intro u kc ks hkc hks hu6 hul hst hmono hkn
    obtain ⟨l2, l3, l4, l5⟩ := id hul
    refine vX6_learn_47 hx rule v u w1 w2 b kc ks ⟨by omega, by omega, by omega, fun g => ?_, fun g => ab_lv4 ?_⟩
    · refine ⟨by omega, by omega, ch_k w1, ch_s w1, ⟨hkc, hks⟩, ab_xv2 (c_fill (d + 2) w1 _ hst hb' (sc_dd_db hd')) (fun v4 hv4 => ⟨by omega, by omega, ?_⟩)⟩
      rw [ab_pa_back]
      refine ab_xv2 (c_build d w2 v4 (n := b.1 3) (by omega) hc hev he hv4 ht (by omega) (by omega) (by omega)) (fun v6 hv6 => ⟨by omega, ab_x1 (c_bestHead (d + 4) v4 hv4.1.1 (by omega) (by omega) (by omega)) ⟨by omega, by omega, ab_x1 (c_least (d + 3) v4 hv4.1.1 (by omega) (by omega) (by omega)) ⟨by omega, ab_x1 (c_unitsOf (d + 2) hb (sc_dd_db hdd) hv6 (by omega) (by omega) (by omega)) ⟨by omega, by omega, by omega, ?_⟩⟩⟩⟩)
      have q := sw_put (b := b) (w0 := u) (w1' := v4) (w2' := v6) hr hv (by rw [hu6]; exact h6) hul hv4.1.1 hv6.1 (fun r' v' a1 a2 a3 a4 a5 => (hkn r' v' a1 a2 a3 a4 a5).1) (r1 := hd_am (fun h => ch_c v4 0 (b.1 3 - 1) h) 0 (b.1 3 - 1 - 0).toNat) (r2 := hd_mn (fun h => ch_c v4 0 (b.1 3 - 1) h) 0 (b.1 3 - 1 - 0).toNat) (r3 := tq_sm (tq_un b (sc_br (ab_pa b 6 rule v)) rule) (tr_J (sc_br (ab_pa b 6 rule v)) 0 (b.1 3 - 1) (dp_H (sc_br (ab_pa b 6 rule v)) 0 (b.1 3 - 1)) 0)) ?_ ?_ ?_
      · refine ab_lv4 ⟨q.1, q.2.1, q.2.2.1, q.2.2.2.1, fun r' v' a => q.2.2.2.2.1 r' v' (hmono r' v' a), ?_⟩
        rw [q.2.2.2.2.2, hu6]
      · rw [ch_best hv4 (by omega) (by omega) (by omega), ecv]
        rfl
      · rw [ch_least hv4 (by omega) (by omega) (by omega), ecv]
        exact (hd_am_val (fun h => dp_B (sw_c (sw_c0 b rule) (sc_un b rule) v) 0 (b.1 3 - 1) h) _ _).symm
      · rw [ecv]
        rfl
    · have := hkn rule v hr.1 hr.2 hv.1 hv.2 ⟨l2, g⟩
      exact ⟨⟨by rw [hu6]; exact h6, ht, Or.inl ⟨hul, this.2⟩, fun r' v' a1 a2 a3 a4 a5 => (hkn r' v' a1 a2 a3 a4 a5).1⟩, hul, this.2, ⟨l2, g⟩, hmono, hu6⟩
  rcases hm with ⟨hl, hcl⟩ | ⟨hz, hst⟩
  · have e1 : sw_k w0 = 0 := if_pos (by rw [hl.1]; decide)
    have e2 : sw_s w0 = 0 := if_pos (by rw [hl.1]; decide)
    refine vX6_learn_0 hx rule v w0 w1 w2 b 0 0 ⟨fun _ => k47 w0 0 0 (by omega) (by omega) rfl hl (Or.inl hcl) (fun _ _ h => h) (fun r' v' a1 a2 a3 a4 a5 => ⟨hk r' v' a1 a2 a3 a4 a5, hcl⟩), fun g => absurd (by rw [hl.1]; decide) g⟩
  · have e1 : sw_k w0 = 4 := if_neg (by rw [hz]; decide)
    have e2 : sw_s w0 = 2400 := if_neg (by rw [hz]; decide)
    have t6 : Int.toNat 600 = 600 := rfl
    refine vX6_learn_0 hx rule v w0 w1 w2 b 0 0 ⟨fun g => absurd g (by rw [hz]; decide), fun _ => ⟨by decide, ⟨by omega, by omega⟩, by decide, ⟨by omega, by omega⟩, by decide, ⟨by omega, by omega⟩, by decide, ⟨by omega, by omega⟩, ?_⟩⟩
    have g2 : (ab_pn (ab_pn (ab_pn (ab_pn w0 2 600) 3 600) 4 600) 5 600).2 2 = (600, fun _ => 0) := by simp [ab_pn, ab_ua]
    refine k47 _ _ _ (by omega) (by omega) (by simp [ab_pn, ab_ua]) ⟨by simp [ab_pn, ab_ua], by simp [ab_pn, ab_ua], by simp [ab_pn, ab_ua], by simp [ab_pn, ab_ua]⟩ hst (fun r' v' h => ?_) (fun r' v' a1 a2 a3 a4 a5 => ?_)
    · have := h.1
      omega
    · have := a5.2
      rw [g2] at this
      exact absurd rfl this
