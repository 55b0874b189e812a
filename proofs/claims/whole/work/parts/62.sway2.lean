/-! SWAY: the class, lines -/
theorem sw_k0 {w : ab_Ob} (h : sw_ln w) : sw_k w = 0 ∧ sw_s w = 0 := by
  have := h.1
  exact ⟨if_pos (by omega), if_pos (by omega)⟩
theorem ch_k0 {w : ab_Ob} (h : ch_len w) : ch_k w = 0 ∧ ch_s w = 0 := by
  have := h.1
  exact ⟨if_pos (by omega), if_pos (by omega)⟩
theorem c_learn0 (d : Nat) (b w0 w1 w2 : ab_Ob) (hb : sc_ok b) (hdd : sc_dd b) (hn1 : 1 ≤ b.1 3) (hw : sw_ok b w0 w1 w2) (hl : sw_ln w0) (hc : ch_len w1) {rule v : Int} (hr : 0 ≤ rule ∧ rule < 6) (hv : 0 ≤ v ∧ v ≤ 99) : ab_Ct (d + 7) 0 0 mX6_learn [ab_O 0, ab_O 3, ab_I rule, ab_I v] [w0, w1, w2, b] (ab_V4 b (sw_le b w0 rule v)) := by
  have := c_learn d b w0 w1 w2 hb hdd hn1 hw hr hv
  rw [(sw_k0 hl).1, (sw_k0 hl).2, (ch_k0 hc).1, (ch_k0 hc).2] at this
  exact this
theorem sw_S_b {b : ab_Ob} (hb : sc_ok b) (hdd : sc_dd b) (hn1 : 1 ≤ b.1 3) (rule v : Int) : 0 ≤ sw_S (sw_c0 b rule) (sc_un b rule) 0 (b.1 3 - 1) v ∧ sw_S (sw_c0 b rule) (sc_un b rule) 0 (b.1 3 - 1) v ≤ 2277 := by
  have hn := hb.2.1
  have hH := sw_H_in (sw_c0 b rule) (sc_un b rule) (i := 0) (j := b.1 3 - 1) (by omega) v
  have ln := tr_J_len (sw_c (sw_c0 b rule) (sc_un b rule) v) 0 (b.1 3 - 1) (sw_H (sw_c0 b rule) (sc_un b rule) 0 (b.1 3 - 1) v) 0 hH.1 hH.2
  have := tq_sm_b (f := fun e => sc_un b rule e.2.2.1 (tr_un (sw_c (sw_c0 b rule) (sc_un b rule) v) e) (tq_l (sw_c (sw_c0 b rule) (sc_un b rule) v) e) (tq_r (sw_c (sw_c0 b rule) (sc_un b rule) v) e)) (B := 99) (L := tr_J (sw_c (sw_c0 b rule) (sc_un b rule) v) 0 (b.1 3 - 1) (sw_H (sw_c0 b rule) (sc_un b rule) 0 (b.1 3 - 1) v) 0) (fun e he => by
    obtain ⟨ok, lt⟩ := tr_J_ok hH.1 hH.2 he
    unfold tr_ok at ok
    have s := dp_sp_in (c := sw_c (sw_c0 b rule) (sc_un b rule) v) (h := e.2.2.1) lt
    have u := dp_un_in (c := sw_c (sw_c0 b rule) (sc_un b rule) v) (h := e.2.2.1) lt
    refine sc_un_b hb (sc_dd_db hdd) (by omega) ?_ ?_ ?_
    · unfold tr_un
      by_cases g : e.2.2.1 ≤ dp_sp (sw_c (sw_c0 b rule) (sc_un b rule) v) e.1 e.2.1 e.2.2.1
      · have := u.1 g; omega
      · have := u.2 g; omega
    · unfold tq_l tq_sp; omega
    · unfold tq_r tq_sp; omega)
  have e : sw_S (sw_c0 b rule) (sc_un b rule) 0 (b.1 3 - 1) v = tq_sm (fun e => sc_un b rule e.2.2.1 (tr_un (sw_c (sw_c0 b rule) (sc_un b rule) v) e) (tq_l (sw_c (sw_c0 b rule) (sc_un b rule) v) e) (tq_r (sw_c (sw_c0 b rule) (sc_un b rule) v) e)) (tr_J (sw_c (sw_c0 b rule) (sc_un b rule) v) 0 (b.1 3 - 1) (sw_H (sw_c0 b rule) (sc_un b rule) 0 (b.1 3 - 1) v) 0) := rfl
  rw [e]
  omega
theorem sw_B_b {b : ab_Ob} (hb : sc_ok b) (hdd : sc_dd b) (hn1 : 1 ≤ b.1 3) {rule v : Int} (hr : 0 ≤ rule ∧ rule < 6) (hv : 0 ≤ v ∧ v ≤ 99) : 0 ≤ sw_B (sw_c0 b rule) (sc_un b rule) 0 (b.1 3 - 1) v ∧ sw_B (sw_c0 b rule) (sc_un b rule) 0 (b.1 3 - 1) v ≤ 1380000 := by
  have hn := hb.2.1
  have hH := sw_H_in (sw_c0 b rule) (sc_un b rule) (i := 0) (j := b.1 3 - 1) (by omega) v
  have hb' := sc_ok_w hb (rule := rule) hv
  have hc := sc_br_cb hb' (sc_dd_db (sc_dd_w hdd rule v))
  rw [sw_cv b hr v] at hc
  have := dp_B_b (n := b.1 3) hn.2 hc 24 0 (b.1 3 - 1) _ (by omega) (by omega) (by omega) hH.1 hH.2 (by omega)
  have e : sw_B (sw_c0 b rule) (sc_un b rule) 0 (b.1 3 - 1) v = dp_B (sw_c (sw_c0 b rule) (sc_un b rule) v) 0 (b.1 3 - 1) (sw_H (sw_c0 b rule) (sc_un b rule) 0 (b.1 3 - 1) v) := rfl
  rw [e]
  omega
theorem sw_mb {s x : Int} (hs : 0 ≤ s ∧ s ≤ 2277) (hx : -99 ≤ x ∧ x ≤ 99) : -225423 ≤ s * x ∧ s * x ≤ 225423 := by
  have h1 : s * x ≤ s * 99 := Int.mul_le_mul_of_nonneg_left hx.2 hs.1
  have h2 : s * (-99) ≤ s * x := Int.mul_le_mul_of_nonneg_left hx.1 hs.1
  omega
theorem c_isOneLine (d : Nat) (b w0 w1 w2 : ab_Ob) (hb : sc_ok b) (hdd : sc_dd b) (hn1 : 1 ≤ b.1 3) (hw : sw_ok b w0 w1 w2) (hl : sw_ln w0) {rule p q : Int} (hr : 0 ≤ rule ∧ rule < 6) (hp : 0 ≤ p ∧ p ≤ 99) (hq : 0 ≤ q ∧ q ≤ 99) (kp : sw_kn w0 rule p) (kq : sw_kn w0 rule q) : ab_Ct (d + 1) 0 0 mX6_isOneLine [ab_O 0, ab_I rule, ab_I p, ab_I q] [w0, w1, w2] (ab_Bo (sw_one (sw_c0 b rule) (sc_un b rule) 0 (b.1 3 - 1) p q) [w0, w1, w2]) := by
  obtain ⟨l2, l3, l4, l5⟩ := hl
  obtain ⟨p1, p2, p3⟩ := hw.2.2.2 rule p hr.1 hr.2 hp.1 hp.2 kp
  obtain ⟨q1, q2, q3⟩ := hw.2.2.2 rule q hr.1 hr.2 hq.1 hq.2 kq
  have s1 := sw_S_b hb hdd hn1 rule p
  have b1 := sw_B_b hb hdd hn1 hr hp
  have b2 := sw_B_b hb hdd hn1 hr hq
  have m1 := sw_mb s1 (x := q - p) (by omega)
  refine ab_ct kX6_isOneLine rfl rfl (fun x hx => vX6_isOneLine_0 hx rule p q w0 w1 w2 0 0 ⟨by omega, by omega, by omega, by omega, by omega, by omega, fun g => ⟨ab_i01, ab_l0b rfl ?_⟩, fun g => ⟨by omega, by omega, by omega, by omega, by omega, by rw [p3]; omega, fun g2 => ⟨ab_i01, ab_l0b rfl ?_⟩, fun g2 => ⟨ab_i11, ab_l1b rfl ?_⟩⟩⟩)
  · intro h
    rw [p3, q3] at g
    exact g h.1
  · intro h
    rw [p2, q2, p3] at g2
    exact g2 h.2
  · rw [p3, q3] at g
    rw [p2, q2, p3] at g2
    exact ⟨g, g2⟩
theorem c_breaksWith (d : Nat) (b w0 w1 w2 : ab_Ob) (hb : sc_ok b) (hdd : sc_dd b) (hn1 : 1 ≤ b.1 3) (hw : sw_ok b w0 w1 w2) {rule v : Int} (hr : 0 ≤ rule ∧ rule < 6) (hv : 0 ≤ v ∧ v ≤ 99) : ab_Ct (d + 8) (sw_k w0 + ch_k w1) (sw_s w0 + ch_s w1) mX6_breaksWith [ab_O 0, ab_O 3, ab_I rule, ab_I v] [w0, w1, w2, b] (fun rv w => ∃ v0 v1 v2, w = [v0, v1, v2, b] ∧ sw_le b w0 rule v v0 v1 v2 ∧ rv = some (ab_I (sw_B (sw_c0 b rule) (sc_un b rule) 0 (b.1 3 - 1) v))) := by
  refine ab_ct kX6_breaksWith rfl rfl (fun x hx => vX6_breaksWith_0 hx rule v w0 w1 w2 b 0 0 ⟨_, _, ⟨by omega, by omega⟩, ab_xv4 (c_learn d b w0 w1 w2 hb hdd hn1 hw hr hv) (fun v0 v1 v2 hv' => ?_)⟩)
  have l4 := hv'.2.1.2.2.1
  have e := (hv'.1.2.2.2 rule v hr.1 hr.2 hv.1 hv.2 hv'.2.2.2.1).2.1
  exact ⟨by omega, by omega, by omega, ⟨⟨_, rfl⟩, v0, _, rfl, v1, _, rfl, v2, _, rfl, b, _, rfl, rfl⟩, v0, v1, v2, rfl, hv', by rw [e]⟩
/-- the first weight whose head is a note; none: -2 -/
def sw_lw (b : ab_Ob) (rule k r : Int) : Prop := (r = -2 ∧ ∀ v : Int, 0 ≤ v → v ≤ 99 → sw_H (sw_c0 b rule) (sc_un b rule) 0 (b.1 3 - 1) v ≠ k) ∨ ((0 ≤ r ∧ r ≤ 99) ∧ sw_H (sw_c0 b rule) (sc_un b rule) 0 (b.1 3 - 1) r = k ∧ ∀ v : Int, 0 ≤ v → v < r → sw_H (sw_c0 b rule) (sc_un b rule) 0 (b.1 3 - 1) v ≠ k)
theorem sw_lw_u {b : ab_Ob} {rule k r r' : Int} (h : sw_lw b rule k r) (h' : sw_lw b rule k r') : r = r' := by
  rcases h with ⟨e, g⟩ | ⟨⟨a1, a2⟩, e, g⟩ <;> rcases h' with ⟨e', g'⟩ | ⟨⟨a1', a2'⟩, e', g'⟩
  · omega
  · exact absurd e' (g r' a1' a2')
  · exact absurd e (g' r a1 a2)
  · rcases Int.lt_trichotomy r r' with q | q | q
    · exact absurd e (g' r a1 q)
    · exact q
    · exact absurd e' (g r' a1' q)
theorem c_leastWeightFor (d : Nat) (b w0 w1 w2 : ab_Ob) (hw : sw_ok b w0 w1 w2) (hl : sw_ln w0) {rule k : Int} (hr : 0 ≤ rule ∧ rule < 6) (hk : ∀ v : Int, 0 ≤ v → v ≤ 99 → sw_kn w0 rule v) : ab_Ct (d + 1) 0 0 mX6_leastWeightFor [ab_O 0, ab_I rule, ab_I k] [w0, w1, w2] (fun rv w => w = [w0, w1, w2] ∧ ∃ r, rv = some (ab_I r) ∧ sw_lw b rule k r) := by
  obtain ⟨l2, l3, l4, l5⟩ := hl
  refine ab_ct kX6_leastWeightFor rfl rfl (fun x hx => vX6_leastWeightFor_0 hx rule k w0 w1 w2 0 0 ?_)
  have key : ∀ (q : Nat) (v : Int), v + q = 100 → 0 ≤ v → (∀ v' : Int, 0 ≤ v' → v' < v → sw_H (sw_c0 b rule) (sc_un b rule) 0 (b.1 3 - 1) v' ≠ k) → ab_J x 2 [some (ab_O 0), some (ab_I rule), some (ab_I k), some (ab_I v)] [] [w0, w1, w2] 0 0 := by
    intro q
    induction q with
    | zero =>
      intro v hv h0 hall
      exact vX6_leastWeightFor_2 hx _ _ _ w0 w1 w2 0 0 ⟨fun _ => ⟨⟨⟨_, rfl⟩, _, rfl, _, rfl, _, rfl, rfl⟩, rfl, _, rfl, Or.inl ⟨rfl, fun v' a1 a2 => hall v' a1 (by omega)⟩⟩, fun g => absurd (by omega) g⟩
    | succ q ih =>
      intro v hv h0 hall
      have e := (hw.2.2.2 rule v hr.1 hr.2 h0 (by omega) (hk v h0 (by omega))).1
      refine vX6_leastWeightFor_2 hx _ _ _ w0 w1 w2 0 0 ⟨fun g => absurd g (by omega), fun _ => ⟨by omega, by omega, by omega, fun g => ⟨by omega, ih (v + 1) (by push_cast at hv; omega) (by omega) (fun v' a1 a2 => ?_)⟩, fun g => ⟨⟨⟨_, rfl⟩, _, rfl, _, rfl, _, rfl, rfl⟩, rfl, _, rfl, Or.inr ⟨⟨h0, by omega⟩, by rw [← e]; exact g, hall⟩⟩⟩⟩
      by_cases ev : v' = v
      · subst ev
        rw [← e]
        exact g
      · exact hall v' a1 (by omega)
  exact key 100 0 (by omega) (by omega) (fun v' a1 a2 => absurd a2 (by omega))
/-- copies between two weights of one line -/
def sw_cb (b w0 : ab_Ob) (rule low : Int) (t : Int) (u : ab_Ob) : Prop := u.2 6 = w0.2 6 ∧ sw_ln u ∧ (∀ r' v' : Int, sw_kn w0 r' v' → sw_kn u r' v') ∧ (∀ r' v' : Int, 0 ≤ r' → r' < 6 → 0 ≤ v' → v' ≤ 99 → sw_kn u r' v' → sw_ent b u r' v') ∧ ∀ v : Int, low < v → v < low + t → sw_kn u rule v
theorem c_copyBetween (d : Nat) (b w0 w1 w2 : ab_Ob) (hb : sc_ok b) (hdd : sc_dd b) (hn1 : 1 ≤ b.1 3) (hw : sw_ok b w0 w1 w2) (hl : sw_ln w0) {rule low high : Int} (hr : 0 ≤ rule ∧ rule < 6) (h0 : 0 ≤ low) (h1 : low < high) (h2 : high ≤ 99) (kl : sw_kn w0 rule low) (h1l : sw_one (sw_c0 b rule) (sc_un b rule) 0 (b.1 3 - 1) low high) : ab_Ct (d + 1) 0 0 mX6_copyBetween [ab_O 0, ab_I rule, ab_I low, ab_I high] [w0, w1, w2] (ab_V3 w1 w2 (sw_cb b w0 rule low (high - low))) := by
  have hn := hb.2.1
  refine ab_ct kX6_copyBetween rfl rfl (fun x hx => vX6_copyBetween_0 hx rule low high w0 w1 w2 0 0 ⟨by omega, by omega, ?_⟩)
  have key : ∀ (q : Nat) (t : Int) (u : ab_Ob), t + q = high - low → 1 ≤ t → sw_cb b w0 rule low t u → ab_J x 11 [some (ab_O 0), none, some (ab_I low), some (ab_I high), some (ab_I (rule * 100 + low)), some (ab_I t)] [] [u, w1, w2] 0 0 := by
    intro q
    induction q with
    | zero =>
      intro t u ht t1 hu
      exact vX6_copyBetween_11 hx _ _ _ _ u w1 w2 0 0 ⟨by omega, fun _ => ab_lv3 (by rw [show high - low = t by omega]; exact hu), fun g => absurd (by omega) g⟩
    | succ q ih =>
      intro t u ht t1 hu
      push_cast at ht
      obtain ⟨u6, ul, um, uk, ub⟩ := hu
      obtain ⟨l2, l3, l4, l5⟩ := id ul
      obtain ⟨e1, e2, e3⟩ := uk rule low hr.1 hr.2 h0 (by omega) (um _ _ kl)
      have mid := sw_mid (sw_c0 b rule) (sc_un b rule) (i := 0) (j := b.1 3 - 1) (by omega) (by omega) h1l (v := low + t) (Or.inl ⟨by omega, by omega⟩)
      have same := sw_one_eq (sw_c0 b rule) (sc_un b rule) (i := 0) (j := b.1 3 - 1) (by omega) (by omega) mid
      have s1 := sw_S_b hb hdd hn1 rule low
      have b1 := sw_B_b hb hdd hn1 hr (v := low) (by omega)
      have m1 := sw_mb s1 (x := t) (by omega)
      have ne : rule * 100 + low ≠ rule * 100 + low + t := by omega
      have ix : rule * 100 + low + t = rule * 100 + (low + t) := by omega
      have r5 : ab_ui (u.2 5).2 (rule * 100 + low + t) ((u.2 5).2 (rule * 100 + low)) (rule * 100 + low) = (u.2 5).2 (rule * 100 + low) := hd_ui_ne ne
      refine vX6_copyBetween_11 hx _ _ _ _ u w1 w2 0 0 ⟨by omega, fun g => absurd g (by omega), fun _ => ⟨by omega, by omega, by omega, by omega, by omega, by omega, by omega, by omega, by first | omega | (rw [hd_pa_len]; omega), ?_⟩⟩
      rw [r5, e1, e2, e3, Int.mul_comm t]
      refine ⟨by omega, by omega, by omega, by omega, by omega, by omega, by omega, ih (t + 1) _ (by omega) (by omega) ?_⟩
      obtain ⟨q1, q2, q3, q4⟩ := sw_putc (b := b) (w0 := u) (u := ab_pa (ab_pa (ab_pa (ab_pa u 3 (rule * 100 + low + t) (sw_H (sw_c0 b rule) (sc_un b rule) 0 (b.1 3 - 1) low)) 5 (rule * 100 + low + t) (sw_S (sw_c0 b rule) (sc_un b rule) 0 (b.1 3 - 1) low)) 4 (rule * 100 + low + t) (sw_B (sw_c0 b rule) (sc_un b rule) 0 (b.1 3 - 1) low + sw_S (sw_c0 b rule) (sc_un b rule) 0 (b.1 3 - 1) low * t)) 2 (rule * 100 + low + t) 1) (rule := rule) (v := low + t) (r1 := sw_H (sw_c0 b rule) (sc_un b rule) 0 (b.1 3 - 1) low) (r2 := sw_B (sw_c0 b rule) (sc_un b rule) 0 (b.1 3 - 1) low + sw_S (sw_c0 b rule) (sc_un b rule) 0 (b.1 3 - 1) low * t) (r3 := sw_S (sw_c0 b rule) (sc_un b rule) 0 (b.1 3 - 1) low) hr (by omega) ul uk (by rw [← ix]; simp [ab_pa, ab_ua]) (by rw [← ix]; simp [ab_pa, ab_ua]) (by rw [← ix]; simp [ab_pa, ab_ua]) (by rw [← ix]; simp [ab_pa, ab_ua]) (fun g => by rw [hd_pa_len, hd_pa_len, hd_pa_len, hd_pa_len]) same.1 (by
        have := mid.2
        rw [show low + t - low = t by omega] at this
        omega) same.2.2
      refine ⟨by simp [ab_pa, ab_ua]; exact u6, q1, fun r' v' h => q4 r' v' (um r' v' h), q2, fun v a1 a2 => ?_⟩
      by_cases ev : v = low + t
      · rw [ev]
        exact q3
      · exact q4 rule v (ub v a1 (by omega))
  refine key (high - low - 1).toNat 1 w0 (by omega) (by omega) ⟨rfl, hl, fun _ _ h => h, hw.2.2.2, fun v a1 a2 => absurd a2 (by omega)⟩
/-! all weights of a rule are learned -/
def sw_fr (b w0 : ab_Ob) (rule : Int) (v0 v1 v2 : ab_Ob) : Prop := sw_ok b v0 v1 v2 ∧ sw_ln v0 ∧ ch_len v1
theorem c_learnAll (d : Nat) (b w0 w1 w2 : ab_Ob) (hb : sc_ok b) (hdd : sc_dd b) (hn1 : 1 ≤ b.1 3) (hw : sw_ok b w0 w1 w2) {rule : Int} (hr : 0 ≤ rule ∧ rule < 6) : ab_Ct (d + 8) (sw_k w0 + ch_k w1) (sw_s w0 + ch_s w1) mX6_learnAll [ab_O 0, ab_O 3, ab_I rule] [w0, w1, w2, b] (ab_V4 b (fun v0 v1 v2 => sw_ok b v0 v1 v2 ∧ sw_ln v0 ∧ ch_len v1 ∧ ∀ v : Int, 0 ≤ v → v ≤ 99 → sw_kn v0 rule v)) := by
  have hn := hb.2.1
  refine ab_ct kX6_learnAll rfl rfl (fun x hx => ?_)
  have key : ∀ (q : Nat) (low pile turn : Int) (u0 u1 u2 : ab_Ob), 2 * (99 - low) - pile + 1 ≤ q → sw_ok b u0 u1 u2 → sw_ln u0 → ch_len u1 → 0 ≤ turn → 0 ≤ low → 0 ≤ pile → (pile = 0 → low = 99) → (1 ≤ pile → (u0.2 6).2 0 = 99 ∧ low < (u0.2 6).2 (pile - 1)) → (∀ t t' : Int, 0 ≤ t → t ≤ t' → t' < pile → (u0.2 6).2 t' + (t' - t) ≤ (u0.2 6).2 t) → (∀ t : Int, 0 ≤ t → t < pile → sw_kn u0 rule ((u0.2 6).2 t)) → (∀ v : Int, 0 ≤ v → v ≤ low → sw_kn u0 rule v) → turn + 2 * (99 - low) - pile ≤ 197 → ab_J x 31 [some (ab_O 0), some (ab_O 3), some (ab_I rule), some (ab_I low), some (ab_I pile), some (ab_I turn), none, none] [] [u0, u1, u2, b] (sw_k w0 + ch_k w1) (sw_s w0 + ch_s w1) := by
    intro q
    induction q with
    | zero =>
      intro low pile turn u0 u1 u2 hq ok ln cl ht hlow hpile hp0 hp1 hE hkE hkl htn
      by_cases hp : pile = 0
      · exact absurd (hp0 hp) (by omega)
      · have e0 := hp1 (by omega)
        have e1 := hE 0 (pile - 1) (by omega) (by omega) (by omega)
        omega
    | succ q ih =>
      intro low pile turn u0 u1 u2 hq ok ln cl ht hlow hpile hp0 hp1 hE hkE hkl htn
      push_cast at hq
      by_cases hp : pile = 0
      · have := hp0 hp
        refine vX6_learnAll_31 hx _ _ _ _ u0 u1 u2 b _ _ ⟨fun g => absurd g (by omega), fun _ => ⟨fun _ => ab_lv4 ⟨ok, ln, cl, fun v a1 a2 => hkl v a1 (by omega)⟩, fun g => absurd (by omega) g⟩⟩
      · have e0 := hp1 (by omega)
        have e1 := hE 0 (pile - 1) (by omega) (by omega) (by omega)
        have l6 := ok.1
        have kh := hkE (pile - 1) (by omega) (by omega)
        have top := hE (pile - 1) (pile - 1) (by omega) (by omega) (by omega)
        -- the pile gets smaller
        have pop : ∀ (u : ab_Ob), sw_ok b u u1 u2 → sw_ln u → u.2 6 = u0.2 6 → (∀ r' v' : Int, sw_kn u0 r' v' → sw_kn u r' v') → (∀ v : Int, low < v → v < (u0.2 6).2 (pile - 1) → sw_kn u rule v) → ab_J x 31 [some (ab_O 0), some (ab_O 3), some (ab_I rule), some (ab_I ((u0.2 6).2 (pile - 1))), some (ab_I (pile + (-1))), some (ab_I (turn + 1)), none, none] [] [u, u1, u2, b] (sw_k w0 + ch_k w1) (sw_s w0 + ch_s w1) := by
          intro u ok' ln' u6 um ub
          refine ih _ _ _ u u1 u2 (by omega) ok' ln' cl (by omega) (by omega) (by omega) (fun g => ?_) (fun g => ?_) (fun t t' a1 a2 a3 => ?_) (fun t a1 a2 => ?_) (fun v a1 a2 => ?_) (by omega)
          · have : pile - 1 = 0 := by omega
            rw [this]
            exact e0.1
          · rw [u6]
            refine ⟨e0.1, ?_⟩
            have := hE (pile + -1 - 1) (pile - 1) (by omega) (by omega) (by omega)
            omega
          · rw [u6]
            exact hE t t' a1 a2 (by omega)
          · rw [u6]
            exact um _ _ (hkE t a1 (by omega))
          · by_cases v1 : v ≤ low
            · exact um _ _ (hkl v a1 v1)
            · by_cases v2 : v = (u0.2 6).2 (pile - 1)
              · rw [v2]
                exact um _ _ kh
              · exact ub v (by omega) (by omega)
        refine vX6_learnAll_31 hx _ _ _ _ u0 u1 u2 b _ _ ⟨fun g => absurd g (by omega), fun _ => ⟨fun g => absurd g (by omega), fun _ => ⟨by omega, by omega, ab_xb (c_isOneLine (d + 6) b u0 u1 u2 hb hdd hn1 ok ln hr (by omega) (by omega) (hkl low hlow (by omega)) kh) (fun one => ⟨fun g => absurd g (by decide), fun _ => ab_xv3 (c_copyBetween (d + 6) b u0 u1 u2 hb hdd hn1 ok ln hr hlow e0.2 (by omega) (hkl low hlow (by omega)) one) (fun u hu => ⟨fun _ => ⟨by omega, by omega, ?_⟩, fun g => absurd g (by decide)⟩)⟩) (fun _ => ⟨fun _ => ⟨fun g => absurd rfl g, fun _ => ⟨by omega, fun g => ⟨by omega, by decide, ?_⟩, fun g => ⟨by omega, by omega, pop u0 ok ln rfl (fun _ _ h => h) (fun v a1 a2 => by omega)⟩⟩⟩, fun g => absurd rfl g⟩)⟩⟩⟩
        · exact pop u ⟨by rw [hu.1]; exact l6, ok.2.1, Or.inl ⟨hu.2.1, cl⟩, hu.2.2.2.1⟩ hu.2.1 hu.1 hu.2.2.1 (fun v a1 a2 => hu.2.2.2.2 v a1 (by omega))
        · rw [hd_ui_eq]
          have md : low < Int.tdiv (low + (u0.2 6).2 (pile - 1)) 2 ∧ Int.tdiv (low + (u0.2 6).2 (pile - 1)) 2 < (u0.2 6).2 (pile - 1) := by
            rw [Int.tdiv_eq_ediv_of_nonneg (by omega)]
            omega
          generalize Int.tdiv (low + (u0.2 6).2 (pile - 1)) 2 = mid at md ⊢
          have ok2 : sw_ok b (ab_pa u0 6 pile mid) u1 u2 := by
            refine ⟨by rw [hd_pa_len]; exact l6, ok.2.1, Or.inl ⟨⟨by rw [hd_pa_len]; exact ln.1, by rw [hd_pa_len]; exact ln.2.1, by rw [hd_pa_len]; exact ln.2.2.1, by rw [hd_pa_len]; exact ln.2.2.2⟩, cl⟩, fun r' v' a1 a2 a3 a4 hk => ?_⟩
            have hk' : sw_kn u0 r' v' := by
              unfold sw_kn at hk
              rw [hd_pa_ne (by decide)] at hk
              exact hk
            have := ok.2.2.2 r' v' a1 a2 a3 a4 hk'
            unfold sw_ent at this ⊢
            rw [hd_pa_ne (by decide), hd_pa_ne (by decide), hd_pa_ne (by decide)]
            exact this
          have ln2 : sw_ln (ab_pa u0 6 pile mid) := ⟨by rw [hd_pa_len]; exact ln.1, by rw [hd_pa_len]; exact ln.2.1, by rw [hd_pa_len]; exact ln.2.2.1, by rw [hd_pa_len]; exact ln.2.2.2⟩
          have kn2 : ∀ r' v', sw_kn u0 r' v' → sw_kn (ab_pa u0 6 pile mid) r' v' := fun r' v' h => by
            unfold sw_kn at h ⊢
            rw [hd_pa_ne (by decide)]
            exact h
          refine ⟨by omega, by omega, by omega, 0, 0, ⟨by omega, by omega⟩, ab_xv4 (c_learn0 d b _ u1 u2 hb hdd hn1 ok2 ln2 cl hr (by omega)) (fun v0 v1 v2 hv => ⟨by omega, by omega, ?_⟩)⟩
          obtain ⟨y1, y2, y3, y4, y5, y6⟩ := hv
          have z6 : (v0.2 6).2 = ab_ui (u0.2 6).2 pile mid := by rw [y6, hd_pa_eq]
          refine ih _ _ _ v0 v1 v2 (by omega) y1 y2 y3 (by omega) (by omega) (by omega) (fun g => absurd g (by omega)) (fun _ => ?_) (fun t t' a1 a2 a3 => ?_) (fun t a1 a2 => ?_) (fun v a1 a2 => y5 _ _ (kn2 _ _ (hkl v a1 a2))) (by omega)
          · rw [z6]
            refine ⟨by rw [hd_ui_ne (by omega)]; exact e0.1, ?_⟩
            have : pile + 1 - 1 = pile := by omega
            rw [this, hd_ui_eq]
            exact md.1
          · rw [z6]
            by_cases g : t' = pile
            · subst g
              rw [hd_ui_eq]
              by_cases g2 : t = t'
              · subst g2
                rw [hd_ui_eq]
                omega
              · rw [hd_ui_ne g2]
                have := hE t (t' - 1) a1 (by omega) (by omega)
                omega
            · rw [hd_ui_ne g, hd_ui_ne (by omega)]
              exact hE t t' a1 a2 (by omega)
          · rw [z6]
            by_cases g : t = pile
            · subst g
              rw [hd_ui_eq]
              exact y4
            · rw [hd_ui_ne g]
              exact y5 _ _ (kn2 _ _ (hkE t a1 (by omega)))
  refine vX6_learnAll_0 hx rule w0 w1 w2 b 0 0 ⟨_, _, ⟨by omega, by omega⟩, ab_xv4 (c_learn d b w0 w1 w2 hb hdd hn1 hw hr ⟨by omega, by omega⟩) (fun v0 v1 v2 h1 => ⟨0, 0, ⟨by omega, by omega⟩, ab_xv4 (c_learn0 d b v0 v1 v2 hb hdd hn1 h1.1 h1.2.1 h1.2.2.1 hr ⟨by omega, by omega⟩) (fun v3 v4 v5 h2 => ⟨by have := h2.1.1; omega, ?_⟩)⟩)⟩
  obtain ⟨y1, y2, y3, y4, y5, y6⟩ := h2
  have z6 : ((ab_pa v3 6 0 99).2 6).2 = ab_ui (v3.2 6).2 0 99 := by rw [hd_pa_eq]
  have kn2 : ∀ r' v', sw_kn v3 r' v' → sw_kn (ab_pa v3 6 0 99) r' v' := fun r' v' h => by
    unfold sw_kn at h ⊢
    rw [hd_pa_ne (by decide)]
    exact h
  have ln2 : sw_ln (ab_pa v3 6 0 99) := ⟨by rw [hd_pa_len]; exact y2.1, by rw [hd_pa_len]; exact y2.2.1, by rw [hd_pa_len]; exact y2.2.2.1, by rw [hd_pa_len]; exact y2.2.2.2⟩
  have ok2 : sw_ok b (ab_pa v3 6 0 99) v4 v5 := by
    refine ⟨by rw [hd_pa_len]; exact y1.1, y1.2.1, Or.inl ⟨ln2, y3⟩, fun r' v' a1 a2 a3 a4 hk => ?_⟩
    have hk' : sw_kn v3 r' v' := by
      unfold sw_kn at hk
      rw [hd_pa_ne (by decide)] at hk
      exact hk
    have := y1.2.2.2 r' v' a1 a2 a3 a4 hk'
    unfold sw_ent at this ⊢
    rw [hd_pa_ne (by decide), hd_pa_ne (by decide), hd_pa_ne (by decide)]
    exact this
  have fin := key 300 0 1 0 (ab_pa v3 6 0 99) v4 v5 (by omega) ok2 ln2 y3 (by omega) (by omega) (by omega) (fun g => absurd g (by omega)) (fun _ => ?_) (fun t t' a1 a2 a3 => ?_) (fun t a1 a2 => ?_) (fun v a1 a2 => ?_) (by omega)
  · have ek : 0 + (sw_k w0 + ch_k w1) + 0 = sw_k w0 + ch_k w1 := by omega
    have es : 0 + (sw_s w0 + ch_s w1) + 0 = sw_s w0 + ch_s w1 := by omega
    rw [ek, es]
    exact fin
  · rw [z6]
    refine ⟨hd_ui_eq _ _ _, ?_⟩
    have : (1 : Int) - 1 = 0 := by omega
    rw [this, hd_ui_eq]
    omega
  · have g1 : t = 0 := by omega
    have g2 : t' = 0 := by omega
    subst g1; subst g2
    omega
  · have g1 : t = 0 := by omega
    subst g1
    rw [z6, hd_ui_eq]
    exact kn2 _ _ y4
  · have g1 : v = 0 := by omega
    subst g1
    exact kn2 _ _ (y5 _ _ h1.2.2.2.1)
