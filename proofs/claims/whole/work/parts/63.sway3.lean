/-! SWAY: the class, how firm -/
def sw_T (b : ab_Ob) (rule v : Int) : Prop := sw_one (sw_c0 b rule) (sc_un b rule) 0 (b.1 3 - 1) ((b.2 6).2 rule) v
def sw_up (b : ab_Ob) (rule r : Int) : Prop := ((b.2 6).2 rule ≤ r ∧ r ≤ 99) ∧ sw_T b rule r ∧ ∀ v : Int, r < v → v ≤ 99 → ¬ sw_T b rule v
def sw_dn (b : ab_Ob) (rule r : Int) : Prop := (0 ≤ r ∧ r ≤ (b.2 6).2 rule) ∧ sw_T b rule r ∧ ∀ v : Int, 0 ≤ v → v < r → ¬ sw_T b rule v
theorem sw_up_u {b : ab_Ob} {rule r r' : Int} (h : sw_up b rule r) (h' : sw_up b rule r') : r = r' := by
  obtain ⟨⟨a1, a2⟩, t, g⟩ := h
  obtain ⟨⟨a1', a2'⟩, t', g'⟩ := h'
  rcases Int.lt_trichotomy r r' with q | q | q
  · exact absurd t' (g r' q a2')
  · exact q
  · exact absurd t (g' r q a2)
theorem sw_dn_u {b : ab_Ob} {rule r r' : Int} (h : sw_dn b rule r) (h' : sw_dn b rule r') : r = r' := by
  obtain ⟨⟨a1, a2⟩, t, g⟩ := h
  obtain ⟨⟨a1', a2'⟩, t', g'⟩ := h'
  rcases Int.lt_trichotomy r r' with q | q | q
  · exact absurd t (g' r a1 q)
  · exact q
  · exact absurd t' (g r' a1' q)
theorem sw_T_self (b : ab_Ob) (rule : Int) : sw_T b rule ((b.2 6).2 rule) := ⟨rfl, by rw [Int.sub_self, Int.sub_self, Int.mul_zero]⟩
theorem sw_T_mid {b : ab_Ob} (hb : sc_ok b) (hn1 : 1 ≤ b.1 3) {rule v v' : Int} (h : sw_T b rule v) (hv : ((b.2 6).2 rule ≤ v' ∧ v' ≤ v) ∨ (v ≤ v' ∧ v' ≤ (b.2 6).2 rule)) : sw_T b rule v' := by
  have hn := hb.2.1
  exact sw_mid _ _ (by omega) (by omega) h hv
theorem c_firmUpTo (d : Nat) (b w0 w1 w2 : ab_Ob) (hb : sc_ok b) (hdd : sc_dd b) (hn1 : 1 ≤ b.1 3) (hw : sw_ok b w0 w1 w2) {rule : Int} (hr : 0 ≤ rule ∧ rule < 6) : ab_Ct (d + 8) (sw_k w0 + ch_k w1) (sw_s w0 + ch_s w1) mX6_firmUpTo [ab_O 0, ab_O 3, ab_I rule] [w0, w1, w2, b] (fun rv w => ∃ v0 v1 v2, w = [v0, v1, v2, b] ∧ (sw_ok b v0 v1 v2 ∧ sw_ln v0 ∧ ch_len v1) ∧ ∃ r, rv = some (ab_I r) ∧ sw_up b rule r) := by
  have hn := hb.2.1
  have n6 := hb.1.2.2.1
  have hnow := hb.2.2.2.2.2.2 rule hr.1 hr.2
  refine ab_ct kX6_firmUpTo rfl rfl (fun x hx => ?_)
  have key : ∀ (q : Nat) (same most turn : Int) (u0 u1 u2 : ab_Ob), most - same ≤ q → sw_ok b u0 u1 u2 → sw_ln u0 → ch_len u1 → sw_kn u0 rule ((b.2 6).2 rule) → (b.2 6).2 rule ≤ same → same ≤ most → most ≤ 99 → sw_T b rule same → (∀ v : Int, most < v → v ≤ 99 → ¬ sw_T b rule v) → 0 ≤ turn → turn + (most - same) ≤ 99 → ab_J x 24 [some (ab_O 0), some (ab_O 3), some (ab_I rule), some (ab_I ((b.2 6).2 rule)), some (ab_I same), some (ab_I most), some (ab_I turn), none] [] [u0, u1, u2, b] (sw_k w0 + ch_k w1) (sw_s w0 + ch_s w1) := by
    intro q
    induction q with
    | zero =>
      intro same most turn u0 u1 u2 hq ok ln cl kn h1 h2 h3 hT hno t0 t1
      have e : same = most := by omega
      subst e
      exact vX6_firmUpTo_24 hx _ _ _ _ _ u0 u1 u2 b _ _ ⟨fun g => absurd g (by omega), fun _ => ⟨fun _ => ⟨⟨⟨_, rfl⟩, u0, _, rfl, u1, _, rfl, u2, _, rfl, b, _, rfl, rfl⟩, u0, u1, u2, rfl, ⟨ok, ln, cl⟩, _, rfl, ⟨h1, h3⟩, hT, hno⟩, fun g => absurd (by omega) g⟩⟩
    | succ q ih =>
      intro same most turn u0 u1 u2 hq ok ln cl kn h1 h2 h3 hT hno t0 t1
      push_cast at hq
      by_cases e : same = most
      · subst e
        exact vX6_firmUpTo_24 hx _ _ _ _ _ u0 u1 u2 b _ _ ⟨fun g => absurd g (by omega), fun _ => ⟨fun _ => ⟨⟨⟨_, rfl⟩, u0, _, rfl, u1, _, rfl, u2, _, rfl, b, _, rfl, rfl⟩, u0, u1, u2, rfl, ⟨ok, ln, cl⟩, _, rfl, ⟨h1, h3⟩, hT, hno⟩, fun g => absurd (by omega) g⟩⟩
      · have md : same < Int.tdiv (same + most + 1) 2 ∧ Int.tdiv (same + most + 1) 2 ≤ most := by
          rw [Int.tdiv_eq_ediv_of_nonneg (by omega)]
          omega
        refine vX6_firmUpTo_24 hx _ _ _ _ _ u0 u1 u2 b _ _ ⟨fun g => absurd g (by omega), fun _ => ⟨fun g => absurd g (by omega), fun _ => ⟨by omega, by omega, by decide, ?_⟩⟩⟩
        generalize Int.tdiv (same + most + 1) 2 = mid at md ⊢
        refine ⟨by omega, 0, 0, ⟨by omega, by omega⟩, ab_xv4 (c_learn0 d b u0 u1 u2 hb hdd hn1 ok ln cl hr (by omega)) (fun v0 v1 v2 hv => ?_)⟩
        obtain ⟨y1, y2, y3, y4, y5, y6⟩ := hv
        refine ab_xb (c_isOneLine (d + 6) b v0 v1 v2 hb hdd hn1 y1 y2 hr (by omega) (by omega) (y5 _ _ kn) y4) (fun one => ⟨fun g => absurd g (by decide), fun _ => ⟨by omega, ih _ _ _ v0 v1 v2 (by omega) y1 y2 y3 (y5 _ _ kn) (by omega) (by omega) h3 one hno (by omega) (by omega)⟩⟩) (fun no => ⟨fun _ => ⟨by omega, by omega, ih _ _ _ v0 v1 v2 (by omega) y1 y2 y3 (y5 _ _ kn) h1 (by omega) (by omega) hT (fun v a1 a2 h => ?_) (by omega) (by omega)⟩, fun g => absurd rfl g⟩)
        exact no (sw_T_mid hb hn1 h (Or.inl ⟨by omega, by omega⟩))
  refine vX6_firmUpTo_0 hx rule w0 w1 w2 b 0 0 ⟨by omega, _, _, ⟨by omega, by omega⟩, ab_xv4 (c_learn d b w0 w1 w2 hb hdd hn1 hw hr hnow) (fun v0 v1 v2 h1 => ?_)⟩
  have ek : 0 + (sw_k w0 + ch_k w1) = sw_k w0 + ch_k w1 := by omega
  have es : 0 + (sw_s w0 + ch_s w1) = sw_s w0 + ch_s w1 := by omega
  rw [ek, es]
  exact key 100 _ 99 0 v0 v1 v2 (by omega) h1.1 h1.2.1 h1.2.2.1 h1.2.2.2.1 (by omega) (by omega) (by omega) (sw_T_self b rule) (fun v a1 a2 => absurd a1 (by omega)) (by omega) (by omega)
theorem c_firmDownTo (d : Nat) (b w0 w1 w2 : ab_Ob) (hb : sc_ok b) (hdd : sc_dd b) (hn1 : 1 ≤ b.1 3) (hw : sw_ok b w0 w1 w2) {rule : Int} (hr : 0 ≤ rule ∧ rule < 6) : ab_Ct (d + 8) (sw_k w0 + ch_k w1) (sw_s w0 + ch_s w1) mX6_firmDownTo [ab_O 0, ab_O 3, ab_I rule] [w0, w1, w2, b] (fun rv w => ∃ v0 v1 v2, w = [v0, v1, v2, b] ∧ (sw_ok b v0 v1 v2 ∧ sw_ln v0 ∧ ch_len v1) ∧ ∃ r, rv = some (ab_I r) ∧ sw_dn b rule r) := by
  have hn := hb.2.1
  have n6 := hb.1.2.2.1
  have hnow := hb.2.2.2.2.2.2 rule hr.1 hr.2
  refine ab_ct kX6_firmDownTo rfl rfl (fun x hx => ?_)
  have key : ∀ (q : Nat) (same least turn : Int) (u0 u1 u2 : ab_Ob), same - least ≤ q → sw_ok b u0 u1 u2 → sw_ln u0 → ch_len u1 → sw_kn u0 rule ((b.2 6).2 rule) → same ≤ (b.2 6).2 rule → least ≤ same → 0 ≤ least → sw_T b rule same → (∀ v : Int, 0 ≤ v → v < least → ¬ sw_T b rule v) → 0 ≤ turn → turn + (same - least) ≤ 99 → ab_J x 23 [some (ab_O 0), some (ab_O 3), some (ab_I rule), some (ab_I ((b.2 6).2 rule)), some (ab_I same), some (ab_I least), some (ab_I turn), none] [] [u0, u1, u2, b] (sw_k w0 + ch_k w1) (sw_s w0 + ch_s w1) := by
    intro q
    induction q with
    | zero =>
      intro same least turn u0 u1 u2 hq ok ln cl kn h1 h2 h3 hT hno t0 t1
      have e : same = least := by omega
      subst e
      exact vX6_firmDownTo_23 hx _ _ _ _ _ u0 u1 u2 b _ _ ⟨fun g => absurd g (by omega), fun _ => ⟨fun _ => ⟨⟨⟨_, rfl⟩, u0, _, rfl, u1, _, rfl, u2, _, rfl, b, _, rfl, rfl⟩, u0, u1, u2, rfl, ⟨ok, ln, cl⟩, _, rfl, ⟨h3, h1⟩, hT, hno⟩, fun g => absurd (by omega) g⟩⟩
    | succ q ih =>
      intro same least turn u0 u1 u2 hq ok ln cl kn h1 h2 h3 hT hno t0 t1
      push_cast at hq
      by_cases e : same = least
      · subst e
        exact vX6_firmDownTo_23 hx _ _ _ _ _ u0 u1 u2 b _ _ ⟨fun g => absurd g (by omega), fun _ => ⟨fun _ => ⟨⟨⟨_, rfl⟩, u0, _, rfl, u1, _, rfl, u2, _, rfl, b, _, rfl, rfl⟩, u0, u1, u2, rfl, ⟨ok, ln, cl⟩, _, rfl, ⟨h3, h1⟩, hT, hno⟩, fun g => absurd (by omega) g⟩⟩
      · have md : least ≤ Int.tdiv (least + same) 2 ∧ Int.tdiv (least + same) 2 < same := by
          rw [Int.tdiv_eq_ediv_of_nonneg (by omega)]
          omega
        refine vX6_firmDownTo_23 hx _ _ _ _ _ u0 u1 u2 b _ _ ⟨fun g => absurd g (by omega), fun _ => ⟨fun g => absurd g (by omega), fun _ => ⟨by omega, by decide, ?_⟩⟩⟩
        generalize Int.tdiv (least + same) 2 = mid at md ⊢
        refine ⟨by omega, 0, 0, ⟨by omega, by omega⟩, ab_xv4 (c_learn0 d b u0 u1 u2 hb hdd hn1 ok ln cl hr (by omega)) (fun v0 v1 v2 hv => ?_)⟩
        obtain ⟨y1, y2, y3, y4, y5, y6⟩ := hv
        refine ab_xb (c_isOneLine (d + 6) b v0 v1 v2 hb hdd hn1 y1 y2 hr (by omega) (by omega) (y5 _ _ kn) y4) (fun one => ⟨fun g => absurd g (by decide), fun _ => ⟨by omega, ih _ _ _ v0 v1 v2 (by omega) y1 y2 y3 (y5 _ _ kn) (by omega) (by omega) h3 one hno (by omega) (by omega)⟩⟩) (fun no => ⟨fun _ => ⟨by omega, by omega, ih _ _ _ v0 v1 v2 (by omega) y1 y2 y3 (y5 _ _ kn) h1 (by omega) (by omega) hT (fun v a1 a2 h => ?_) (by omega) (by omega)⟩, fun g => absurd rfl g⟩)
        exact no (sw_T_mid hb hn1 h (Or.inr ⟨by omega, by omega⟩))
  refine vX6_firmDownTo_0 hx rule w0 w1 w2 b 0 0 ⟨by omega, _, _, ⟨by omega, by omega⟩, ab_xv4 (c_learn d b w0 w1 w2 hb hdd hn1 hw hr hnow) (fun v0 v1 v2 h1 => ?_)⟩
  have ek : 0 + (sw_k w0 + ch_k w1) = sw_k w0 + ch_k w1 := by omega
  have es : 0 + (sw_s w0 + ch_s w1) = sw_s w0 + ch_s w1 := by omega
  rw [ek, es]
  exact key 100 _ 0 0 v0 v1 v2 (by omega) h1.1 h1.2.1 h1.2.2.1 h1.2.2.2.1 (by omega) (by omega) (by omega) (sw_T_self b rule) (fun v a1 a2 => absurd a2 (by omega)) (by omega) (by omega)
/-- what is known is forgotten -/
def sw_fg (w0 : ab_Ob) (t : Int) (u : ab_Ob) : Prop := (∀ f, f ≠ 2 → u.2 f = w0.2 f) ∧ (u.2 2).1 = (w0.2 2).1 ∧ ∀ q : Int, 0 ≤ q → q < t → (u.2 2).2 q = 0
theorem c_forget (d : Nat) (w0 w1 w2 : ab_Ob) (h0 : 0 ≤ (w0.2 2).1 ∧ (w0.2 2).1 ≤ 600) : ab_Ct (d + 1) 0 0 mX6_forget [ab_O 0] [w0, w1, w2] (ab_V3 w1 w2 (sw_fg w0 ((w0.2 2).1))) := by
  refine ab_ct kX6_forget rfl rfl (fun x hx => vX6_forget_0 hx w0 w1 w2 0 0 ?_)
  have key : ∀ (q : Nat) (t : Int) (u : ab_Ob), t + q = (w0.2 2).1 → 0 ≤ t → sw_fg w0 t u → ab_J x 2 [some (ab_O 0), some (ab_I t)] [] [u, w1, w2] 0 0 := by
    intro q
    induction q with
    | zero =>
      intro t u ht t0 hu
      have := hu.2.1
      exact vX6_forget_2 hx _ u w1 w2 0 0 ⟨fun _ => ab_lv3 (by rw [show (w0.2 2).1 = t by omega]; exact hu), fun g => absurd (by omega) g⟩
    | succ q ih =>
      intro t u ht t0 hu
      push_cast at ht
      obtain ⟨g1, g2, g3⟩ := hu
      refine vX6_forget_2 hx _ u w1 w2 0 0 ⟨fun g => absurd g (by omega), fun _ => ⟨by omega, by omega, by omega, ih (t + 1) (ab_pa u 2 t 0) (by omega) (by omega) ⟨fun f hf => by rw [hd_pa_ne hf]; exact g1 f hf, by rw [hd_pa_len]; exact g2, fun z z0 z1 => ?_⟩⟩⟩
      rw [hd_pa_eq]
      show ab_ui (u.2 2).2 t 0 z = 0
      by_cases e : z = t
      · subst e; rw [hd_ui_eq]
      · rw [hd_ui_ne e]; exact g3 z z0 (by omega)
  exact key (w0.2 2).1.toNat 0 w0 (by omega) (by omega) ⟨fun _ _ => rfl, rfl, fun q q0 q1 => absurd q1 (by omega)⟩
/-- forgotten, it is right for any piece -/
theorem sw_fg_ok {b b' w0 w1 w2 u : ab_Ob} (hw : sw_ok b w0 w1 w2) (hu : sw_fg w0 ((w0.2 2).1) u) : sw_ok b' u w1 w2 := by
  obtain ⟨h6, ht, hm, hk⟩ := hw
  obtain ⟨g1, g2, g3⟩ := hu
  refine ⟨by rw [g1 6 (by decide)]; exact h6, ht, ?_, fun r v a1 a2 a3 a4 hkn => ?_⟩
  · rcases hm with ⟨⟨l2, l3, l4, l5⟩, hc⟩ | ⟨hz, hs⟩
    · exact Or.inl ⟨⟨by rw [g2]; exact l2, by rw [g1 3 (by decide)]; exact l3, by rw [g1 4 (by decide)]; exact l4, by rw [g1 5 (by decide)]; exact l5⟩, hc⟩
    · exact Or.inr ⟨by rw [g2]; exact hz, hs⟩
  · have e := hkn.1
    exact absurd (g3 (r * 100 + v) (by omega) (by omega)) hkn.2
