/-! ACTS: rows of numbers before and after -/
def rc (n : Int) (e : Int × Int × Int) (X : Int → Int) : Int → Int := if e.1 = 0 then ab_ui X e.2.1 e.2.2 else if e.1 = 1 then ab_ui X (24 + e.2.1) e.2.2 else if e.1 = 2 then ab_ui X (48 + e.2.1) e.2.2 else if e.1 = 3 then ab_ui X 54 e.2.2 else fun q => if 0 ≤ q ∧ q < n then X q + e.2.2 else X q
def nb (n : Int) (X : Int → Int) : Prop := (0 ≤ X 54 ∧ X 54 ≤ 11) ∧ (∀ k : Int, 0 ≤ k → k < n → (0 ≤ X k ∧ X k ≤ 99) ∧ (1 ≤ X (24 + k) ∧ X (24 + k) ≤ 64)) ∧ ∀ r : Int, 0 ≤ r → r < 6 → 0 ≤ X (48 + r) ∧ X (48 + r) ≤ 99
/-- an act that can be done -/
def ev (n : Int) (e : Int × Int × Int) : Prop := (0 ≤ e.1 ∧ e.1 ≤ 4) ∧ (e.1 ≤ 1 → 0 ≤ e.2.1 ∧ e.2.1 < n) ∧ (e.1 = 2 → 0 ≤ e.2.1 ∧ e.2.1 < 6) ∧ (e.1 = 4 → -99 ≤ e.2.2 ∧ e.2.2 ≤ 99)
/-- the numbers that count -/
def rl (n k : Int) : Prop := (0 ≤ k ∧ k < n) ∨ (24 ≤ k ∧ k < 24 + n) ∨ (48 ≤ k ∧ k ≤ 54)
/-- after a change -/
def hC (b b' : ab_Ob) (Y : Int → Int) : Prop := hB b' ∧ b'.1 3 = b.1 3 ∧ b'.1 0 = b.1 0 ∧ b'.1 1 = b.1 1 ∧ md_x b' Y
theorem sc_dv_B {b b1 b' : ab_Ob} (hb : sc_ok b) (e3 : b1.1 3 = b.1 3) (e0 : b1.1 0 = b.1 0) (e1 : b1.1 1 = b.1 1) (hl : ∀ f, (b1.2 f).1 = (b.2 f).1) {Y : Int → Int} (hx : md_x b1 Y) (hn : nb (b.1 3) Y) : sc_ok b1 ∧ (sc_dv b1 b' (b1.1 3) → hC b b' Y) := by
  obtain ⟨⟨n4, n5, n6, n7, n8, n9⟩, h2, h3, h4, h5, h6, h7⟩ := hb
  obtain ⟨x1, x2, x3⟩ := hx
  obtain ⟨m1, m2, m3⟩ := hn
  have ok : sc_ok b1 := by
    refine ⟨⟨by rw [hl]; exact n4, by rw [hl]; exact n5, by rw [hl]; exact n6, by rw [hl]; exact n7, by rw [hl]; exact n8, by rw [hl]; exact n9⟩, by rw [e3]; exact h2, by rw [e0]; exact h3, by rw [e1]; exact h4, by rw [← x1]; exact m1, fun k k0 k1 => ?_, fun r r0 r1 => ?_⟩
    · have y := x2 k k0 k1
      have z := m2 k k0 (by omega)
      rw [← y.1, ← y.2]
      exact z
    · have y := x3 r r0 r1
      have z := m3 r r0 r1
      rw [← y]
      exact z
  refine ⟨ok, fun hd => ?_⟩
  obtain ⟨d1, d2, d7, d8, d9, dk⟩ := hd
  have q4 := d2 4 (by decide) (by decide) (by decide)
  have q5 := d2 5 (by decide) (by decide) (by decide)
  have q6 := d2 6 (by decide) (by decide) (by decide)
  obtain ⟨⟨o4, o5, o6, o7, o8, o9⟩, k2, k3, k4, k5, k6, k7⟩ := ok
  refine ⟨⟨⟨⟨by rw [q4]; exact o4, by rw [q5]; exact o5, by rw [q6]; exact o6, by rw [d7]; exact o7, by rw [d8]; exact o8, by rw [d9]; exact o9⟩, by rw [d1]; exact k2, by rw [d1]; exact k3, by rw [d1]; exact k4, by rw [d1]; exact k5, by rw [q4, q5, d1]; exact k6, by rw [q6]; exact k7⟩, fun k k0 k1 => ?_⟩, by rw [d1]; exact e3, by rw [d1]; exact e0, by rw [d1]; exact e1, by rw [d1]; exact x1, fun k k0 k1 => ?_, by rw [q6]; exact x3⟩
  · rw [d1] at k1
    rw [q5, q4, d1]
    exact dk k k0 k1
  · rw [d1] at k1
    rw [q4, q5]
    exact x2 k k0 k1
theorem h_renew (d : Nat) (x rd dr b ac sp cn wh sw swc swt kp t1 t2 ly wi : ab_Ob) {b0 : ab_Ob} (h : hI b0 x sp cn wh sw swc swt t1 t2 ly wi) : ab_Ct (d + 2) 0 0 mX8_renew [ab_O 0] [x, rd, dr, b, ac, sp, cn, wh, sw, swc, swt, kp, t1, t2, ly, wi] (fun rv w => rv = none ∧ ∃ sw', w = [ab_pf (ab_pf (ab_pf x 5 0) 7 0) 9 0, rd, dr, b, ac, sp, cn, wh, sw', swc, swt, kp, t1, t2, ly, wi] ∧ hI b (ab_pf (ab_pf (ab_pf x 5 0) 7 0) 9 0) sp cn wh sw' swc swt t1 t2 ly wi ∧ sw_k sw' = sw_k sw ∧ sw_s sw' = sw_s sw) := by
  have l2 : 0 ≤ (sw.2 2).1 ∧ (sw.2 2).1 ≤ 600 := by
    rcases h.2.1.2.2.1 with ⟨y, _⟩ | ⟨y, _⟩
    · rw [y.1]; decide
    · rw [y]; decide
  refine ab_ct kX8_renew rfl rfl (fun c hc => vX8_renew_0 hc x rd dr b ac sp cn wh sw swc swt kp t1 t2 ly wi 0 0 ⟨ab_i01, ab_i01, ab_i01, _, c_forget d sw swc swt l2, fun v hv => ?_⟩)
  obtain ⟨_, u, e, hu⟩ := hv
  cases e
  refine ⟨⟨rfl, (by repeat' first | exact rfl | refine ⟨_, rfl, ?_⟩ | refine ⟨_, _, rfl, ?_⟩)⟩, rfl, _, rfl, ⟨⟨h.1.1, h.1.2.1, h.1.2.2.1, fun g => absurd rfl g, fun g => absurd rfl g, fun g => absurd rfl g⟩, sw_fg_ok h.2.1 hu, h.2.2⟩, ?_, ?_⟩
  · unfold sw_k; rw [hu.2.1]
  · unfold sw_s; rw [hu.2.1]
theorem h_change (d : Nat) (x rd dr b ac sp cn wh sw swc swt kp t1 t2 ly wi : ab_Ob) (hb : hB b) (h : hI b x sp cn wh sw swc swt t1 t2 ly wi) {k p v : Int} (he : ev (b.1 3) (k, p, v)) {X : Int → Int} (hx : md_x b X) (hnb : nb (b.1 3) (rc (b.1 3) (k, p, v) X)) : ab_Ct (d + 4) 0 0 mX8_change [ab_O 0, ab_I k, ab_I p, ab_I v] [x, rd, dr, b, ac, sp, cn, wh, sw, swc, swt, kp, t1, t2, ly, wi] (fun rv w => rv = none ∧ ∃ b' sw', w = [ab_pf (ab_pf (ab_pf x 5 0) 7 0) 9 0, rd, dr, b', ac, sp, cn, wh, sw', swc, swt, kp, t1, t2, ly, wi] ∧ hC b b' (rc (b.1 3) (k, p, v) X) ∧ hI b' (ab_pf (ab_pf (ab_pf x 5 0) 7 0) 9 0) sp cn wh sw' swc swt t1 t2 ly wi ∧ sw_k sw' = sw_k sw ∧ sw_s sw' = sw_s sw) := by
  obtain ⟨l4, l5, l6, l7, l8, l9⟩ := hb.1.1
  have hn := hb.1.2.1
  obtain ⟨x1, x2, x3⟩ := hx
  obtain ⟨⟨k0, k4⟩, e1, e2, e4⟩ := he
  have k0' : 0 ≤ k := k0
  have k4' : k ≤ 4 := k4
  have e1' : k ≤ 1 → 0 ≤ p ∧ p < b.1 3 := e1
  have e2' : k = 2 → 0 ≤ p ∧ p < 6 := e2
  have e4' : k = 4 → -99 ≤ v ∧ v ≤ 99 := e4
  have rest : ∀ (c : ab_Cx) (b1 : ab_Ob), sc_ok b1 → (∀ b', sc_dv b1 b' (b1.1 3) → hC b b' (rc (b.1 3) (k, p, v) X)) → (∃ Q16 : Option ab_V → List ab_Ob → Prop, ab_Ct (d + 3) 0 0 mX5_derive [ab_O 0] [b1] Q16 ∧ (∀ v17 : ab_Ob, Q16 none [v17] → (∃ Q18 : Option ab_V → List ab_Ob → Prop, ab_Ct (d + 3) 0 0 mX8_renew [ab_O 0] [x, rd, dr, v17, ac, sp, cn, wh, sw, swc, swt, kp, t1, t2, ly, wi] Q18 ∧ (∀ v19 : ab_Ob, ∀ v20 : ab_Ob, Q18 none [v19, rd, dr, v17, ac, sp, cn, wh, v20, swc, swt, kp, t1, t2, ly, wi] → ((ab_shr (ab_rt mX8_change) (ab_rp mX8_change) none ∧ ab_shw (ab_wr mX8_change) [x, rd, dr, b, ac, sp, cn, wh, sw, swc, swt, kp, t1, t2, ly, wi] [v19, rd, dr, v17, ac, sp, cn, wh, v20, swc, swt, kp, t1, t2, ly, wi]) ∧ ((none : Option ab_V) = none ∧ ∃ b' sw', [v19, rd, dr, v17, ac, sp, cn, wh, v20, swc, swt, kp, t1, t2, ly, wi] = [ab_pf (ab_pf (ab_pf x 5 0) 7 0) 9 0, rd, dr, b', ac, sp, cn, wh, sw', swc, swt, kp, t1, t2, ly, wi] ∧ hC b b' (rc (b.1 3) (k, p, v) X) ∧ hI b' (ab_pf (ab_pf (ab_pf x 5 0) 7 0) 9 0) sp cn wh sw' swc swt t1 t2 ly wi ∧ sw_k sw' = sw_k sw ∧ sw_s sw' = sw_s sw)))))) := fun c b1 ok hd => by
    refine ab_xv1 (c_derive d b1 ok) (fun b' hb' => ⟨_, h_renew (d + 1) x rd dr b' ac sp cn wh sw swc swt kp t1 t2 ly wi h, fun v19 v20 hr => ?_⟩)
    obtain ⟨_, sw', e, hi, s1, s2⟩ := hr
    cases e
    exact ⟨⟨rfl, (by repeat' first | exact rfl | refine ⟨_, rfl, ?_⟩ | refine ⟨_, _, rfl, ?_⟩)⟩, rfl, _, _, rfl, hd b' hb', hi, s1, s2⟩
  have fin : ∀ b1 : ab_Ob, b1.1 3 = b.1 3 → b1.1 0 = b.1 0 → b1.1 1 = b.1 1 → (∀ f, (b1.2 f).1 = (b.2 f).1) → md_x b1 (rc (b.1 3) (k, p, v) X) → sc_ok b1 ∧ ∀ b', sc_dv b1 b' (b1.1 3) → hC b b' (rc (b.1 3) (k, p, v) X) := fun b1 f3 f0 f1 fl fx => ⟨(sc_dv_B (b' := b) hb.1 f3 f0 f1 fl fx hnb).1, fun b' => (sc_dv_B hb.1 f3 f0 f1 fl fx hnb).2⟩
  refine ab_ct kX8_change rfl rfl (fun c hc => vX8_change_0 hc k p v x rd dr b ac sp cn wh sw swc swt kp t1 t2 ly wi 0 0 ⟨fun g => ?_, fun g => ?_, fun g => ?_, fun g => ?_, fun g => ?_, trivial⟩)
  · refine ab_xv1 (c_moveAll (d + 2) b hb.1 (e4' (by omega))) (fun b1 hm => ?_)
    obtain ⟨m1, m2, m3, m4⟩ := hm
    have r : rc (b.1 3) (k, p, v) X = fun q => if 0 ≤ q ∧ q < b.1 3 then X q + v else X q := by
      unfold rc
      rw [if_neg (by show ¬ k = 0; omega), if_neg (by show ¬ k = 1; omega), if_neg (by show ¬ k = 2; omega), if_neg (by show ¬ k = 3; omega)]
    have q := fin b1 (by rw [m1]) (by rw [m1]) (by rw [m1]) (fun f => by
      by_cases f4 : f = 4
      · rw [f4]; exact m3
      · rw [m2 f f4]) (by
      rw [r]
      refine ⟨?_, fun k' k0' k1' => ?_, fun r' r0 r1 => ?_⟩
      · rw [m1]; dsimp only; rw [if_neg (by omega)]; exact x1
      · rw [m1] at k1'
        dsimp only
        rw [m4, if_pos ⟨k0', k1'⟩, if_pos ⟨k0', k1'⟩, if_neg (by omega), m2 5 (by decide), (x2 k' k0' k1').1, (x2 k' k0' k1').2]
        exact ⟨rfl, rfl⟩
      · dsimp only
        rw [if_neg (by omega), m2 6 (by decide)]
        exact x3 r' r0 r1)
    exact rest c b1 q.1 q.2
  · have pp := e1' (by omega)
    have r : rc (b.1 3) (k, p, v) X = ab_ui X p v := if_pos g
    have q := fin (ab_pa b 4 p v) rfl rfl rfl (fun f => hd_pa_len b 4 f p v) (by
      rw [r]
      refine ⟨?_, fun k' k0' k1' => ?_, fun r' r0 r1 => ?_⟩
      · rw [hd_ui_ne (by omega)]; exact x1
      · have k1 : k' < b.1 3 := k1'
        rw [hd_pa_eq, hd_pa_ne (by decide), hd_ui_ne (j := 24 + k') (by omega)]
        refine ⟨?_, (x2 k' k0' k1).2⟩
        show ab_ui X p v k' = ab_ui (b.2 4).2 p v k'
        by_cases y : k' = p
        · rw [y, hd_ui_eq, hd_ui_eq]
        · rw [hd_ui_ne y, hd_ui_ne y]; exact (x2 k' k0' k1).1
      · rw [hd_ui_ne (by omega), hd_pa_ne (by decide)]
        exact x3 r' r0 r1)
    exact ⟨by omega, rest c _ q.1 q.2⟩
  · have pp := e1' (by omega)
    have r : rc (b.1 3) (k, p, v) X = ab_ui X (24 + p) v := by
      unfold rc
      rw [if_neg (by show ¬ k = 0; omega)]
      exact if_pos g
    have q := fin (ab_pa b 5 p v) rfl rfl rfl (fun f => hd_pa_len b 5 f p v) (by
      rw [r]
      refine ⟨?_, fun k' k0' k1' => ?_, fun r' r0 r1 => ?_⟩
      · rw [hd_ui_ne (by omega)]; exact x1
      · have k1 : k' < b.1 3 := k1'
        rw [hd_pa_eq, hd_pa_ne (by decide), hd_ui_ne (j := k') (by omega)]
        refine ⟨(x2 k' k0' k1).1, ?_⟩
        show ab_ui X (24 + p) v (24 + k') = ab_ui (b.2 5).2 p v k'
        by_cases y : k' = p
        · rw [y, hd_ui_eq, hd_ui_eq]
        · rw [hd_ui_ne (by omega), hd_ui_ne y]; exact (x2 k' k0' k1).2
      · rw [hd_ui_ne (by omega), hd_pa_ne (by decide)]
        exact x3 r' r0 r1)
    exact ⟨by omega, rest c _ q.1 q.2⟩
  · have pp := e2' g
    have r : rc (b.1 3) (k, p, v) X = ab_ui X (48 + p) v := by
      unfold rc
      rw [if_neg (by show ¬ k = 0; omega), if_neg (by show ¬ k = 1; omega)]
      exact if_pos g
    have q := fin (ab_pa b 6 p v) rfl rfl rfl (fun f => hd_pa_len b 6 f p v) (by
      rw [r]
      refine ⟨?_, fun k' k0' k1' => ?_, fun r' r0 r1 => ?_⟩
      · rw [hd_ui_ne (by omega)]; exact x1
      · have k1 : k' < b.1 3 := k1'
        rw [hd_pa_ne (by decide), hd_pa_ne (by decide), hd_ui_ne (j := k') (by omega), hd_ui_ne (j := 24 + k') (by omega)]
        exact x2 k' k0' k1
      · rw [hd_pa_eq]
        show ab_ui X (48 + p) v (48 + r') = ab_ui (b.2 6).2 p v r'
        by_cases y : r' = p
        · rw [y, hd_ui_eq, hd_ui_eq]
        · rw [hd_ui_ne (by omega), hd_ui_ne y]; exact x3 r' r0 r1)
    exact ⟨by omega, rest c _ q.1 q.2⟩
  · have r : rc (b.1 3) (k, p, v) X = ab_ui X 54 v := by
      unfold rc
      rw [if_neg (by show ¬ k = 0; omega), if_neg (by show ¬ k = 1; omega), if_neg (by show ¬ k = 2; omega)]
      exact if_pos g
    have q := fin (ab_pf b 2 v) rfl rfl rfl (fun f => rfl) (by
      rw [r]
      refine ⟨?_, fun k' k0' k1' => ?_, fun r' r0 r1 => ?_⟩
      · rw [hd_ui_eq, hd_pf_eq]
      · have k1 : k' < b.1 3 := k1'
        rw [hd_ui_ne (j := k') (by omega), hd_ui_ne (j := 24 + k') (by omega)]
        exact x2 k' k0' k1
      · rw [hd_ui_ne (by omega)]
        exact x3 r' r0 r1)
    exact rest c _ q.1 q.2
