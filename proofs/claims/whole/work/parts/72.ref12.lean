/-! THE REFERENCE: acts -/
def md_x (b : ab_Ob) (X : Int → Int) : Prop := X 54 = b.1 2 ∧ (∀ k : Int, 0 ≤ k → k < b.1 3 → X k = (b.2 4).2 k ∧ X (24 + k) = (b.2 5).2 k) ∧ ∀ r : Int, 0 ≤ r → r < 6 → X (48 + r) = (b.2 6).2 r
theorem md_p_x {b m : ab_Ob} : md_p b m ↔ (m.1 8 = b.1 3 ∧ m.1 6 = b.1 0 ∧ m.1 7 = b.1 1) ∧ md_x b (m.2 3).2 := ⟨fun h => ⟨⟨h.1, h.2.1, h.2.2.1⟩, h.2.2.2⟩, fun h => ⟨h.1.1, h.1.2.1, h.1.2.2, h.2⟩⟩
def re_s (m : ab_Ob) : Int := if m.1 9 = 10 then 1 else 0
/-- what was is remembered -/
def re_p (m z : ab_Ob) : Prop := z.1 9 = m.1 9 - re_s m + 1 ∧ (∀ k : Int, 0 ≤ k → k < 55 → (z.2 5).2 (55 * (m.1 9 - re_s m) + k) = (m.2 3).2 k) ∧ ∀ q : Int, 0 ≤ q → q < 55 * (m.1 9 - re_s m) → (z.2 5).2 q = (m.2 5).2 (q + 55 * re_s m)
theorem c9_remembers (d : Nat) {m : ab_Ob} (h9 : 0 ≤ m.1 9 ∧ m.1 9 ≤ 10) (h3 : (m.2 3).1 = 55) (h5 : (m.2 5).1 = 550) : ab_Ct (d + 1) 0 0 mX9_remembers [ab_O 0] [m] (ab_V1 (fun z => re_p m z ∧ (∀ f, f ≠ 9 → z.1 f = m.1 f) ∧ (∀ f, f ≠ 5 → z.2 f = m.2 f) ∧ (z.2 5).1 = 550)) := by
  refine ab_ct kX9_remembers rfl rfl (fun x hx => ?_)
  have rs : (m.1 9 = 10 ∧ re_s m = 1) ∨ (¬ m.1 9 = 10 ∧ re_s m = 0) := by
    unfold re_s
    by_cases e : m.1 9 = 10
    · exact Or.inl ⟨e, if_pos e⟩
    · exact Or.inr ⟨e, if_neg e⟩
  have k52 : ∀ (q : Nat) (t : Int) (v : ab_Ob), t + q = 55 → 0 ≤ t → v.1 9 = m.1 9 - re_s m → (∀ f, f ≠ 9 → v.1 f = m.1 f) → (∀ f, f ≠ 5 → v.2 f = m.2 f) → (v.2 5).1 = 550 → (∀ k : Int, 0 ≤ k → k < t → (v.2 5).2 (55 * (m.1 9 - re_s m) + k) = (m.2 3).2 k) → (∀ q : Int, 0 ≤ q → q < 55 * (m.1 9 - re_s m) → (v.2 5).2 q = (m.2 5).2 (q + 55 * re_s m)) → ab_J x 52 [some (ab_O 0), some (ab_I t)] [] [v] 0 0 := by
    intro q
    induction q with
    | zero =>
      intro t v ht t0 v9 v1 v2 v5 hk hq
      refine vX9_remembers_52 hx _ v 0 0 ⟨fun _ => ⟨by omega, ab_lv1 ⟨⟨?_, fun k k0 k1 => hk k k0 (by omega), hq⟩, fun f hf => ?_, v2, v5⟩⟩, fun g => absurd (by omega) g⟩
      · rw [hd_pf_eq, v9]
      · rw [hd_pf_ne hf]
        exact v1 f hf
    | succ q ih =>
      intro t v ht t0 v9 v1 v2 v5 hk hq
      push_cast at ht
      have l3 : (v.2 3).1 = 55 := by rw [v2 3 (by decide)]; exact h3
      have e3 : (v.2 3).2 t = (m.2 3).2 t := by rw [v2 3 (by decide)]
      refine vX9_remembers_52 hx _ v 0 0 ⟨fun g => absurd g (by omega), fun _ => ⟨by omega, by omega, by omega, by omega, by omega, ih (t + 1) _ (by omega) (by omega) v9 v1 (fun f hf => by rw [hd_pa_ne hf]; exact v2 f hf) (by rw [hd_pa_len]; exact v5) (fun k k0 k1 => ?_) (fun z z0 z1 => ?_)⟩⟩
      · rw [hd_pa_eq]
        show ab_ui (v.2 5).2 _ _ _ = _
        rw [v9, e3]
        by_cases e : k = t
        · subst e; rw [hd_ui_eq]
        · rw [hd_ui_ne (by omega)]
          exact hk k k0 (by omega)
      · rw [hd_pa_eq]
        show ab_ui (v.2 5).2 _ _ _ = _
        rw [v9, hd_ui_ne (by omega)]
        exact hq z z0 z1
  have k12 : m.1 9 = 10 → ∀ (q : Nat) (t : Int) (v : ab_Ob), t + q = 550 → 55 ≤ t → v.1 = m.1 → (∀ f, f ≠ 5 → v.2 f = m.2 f) → (v.2 5).1 = 550 → (∀ z : Int, 0 ≤ z → z < t - 55 → (v.2 5).2 z = (m.2 5).2 (z + 55)) → (∀ z : Int, t - 55 ≤ z → (v.2 5).2 z = (m.2 5).2 z) → ab_J x 12 [some (ab_O 0), some (ab_I t)] [] [v] 0 0 := by
    intro h10 q
    have r1 : re_s m = 1 := if_pos h10
    induction q with
    | zero =>
      intro t v ht t0 v1 v2 v5 hlo hhi
      have e9 : v.1 9 = m.1 9 := by rw [v1]
      refine vX9_remembers_12 hx _ v 0 0 ⟨fun _ => ⟨by omega, k52 55 0 _ (by omega) (by omega) ?_ (fun f hf => by rw [hd_pf_ne hf, v1]) v2 v5 (fun k k0 k1 => absurd k1 (by omega)) (fun z z0 z1 => ?_)⟩, fun g => absurd (by omega) g⟩
      · rw [hd_pf_eq, e9, r1]
      · rw [r1]
        show (v.2 5).2 z = _
        rw [hlo z z0 (by omega)]
        rfl
    | succ q ih =>
      intro t v ht t0 v1 v2 v5 hlo hhi
      push_cast at ht
      refine vX9_remembers_12 hx _ v 0 0 ⟨fun g => absurd g (by omega), fun _ => ⟨by omega, by omega, by omega, by omega, ih (t + 1) _ (by omega) (by omega) v1 (fun f hf => by rw [hd_pa_ne hf]; exact v2 f hf) (by rw [hd_pa_len]; exact v5) (fun z z0 z1 => ?_) (fun z z0 => ?_)⟩⟩
      · rw [hd_pa_eq]
        show ab_ui (v.2 5).2 _ _ _ = _
        by_cases e : z = t - 55
        · subst e
          rw [hd_ui_eq, hhi t (by omega), show t - 55 + 55 = t by omega]
        · rw [hd_ui_ne e]
          exact hlo z z0 (by omega)
      · rw [hd_pa_eq]
        show ab_ui (v.2 5).2 _ _ _ = _
        rw [hd_ui_ne (by omega)]
        exact hhi z (by omega)
  refine vX9_remembers_0 hx m 0 0 ⟨fun g => ?_, fun g => k12 g 495 55 m (by omega) (by omega) rfl (fun _ _ => rfl) h5 (fun z z0 z1 => absurd z1 (by omega)) (fun _ _ => rfl)⟩
  have r0 : re_s m = 0 := if_neg g
  refine k52 55 0 m (by omega) (by omega) (by omega) (fun _ _ => rfl) (fun _ _ => rfl) h5 (fun k k0 k1 => absurd k1 (by omega)) (fun z z0 z1 => ?_)
  rw [r0, show z + 55 * 0 = z by omega]
/-- what an act leaves as it is -/
def ax_f (m z : ab_Ob) : Prop := (∀ f, f ≠ 0 → f ≠ 1 → f ≠ 2 → f ≠ 9 → f ≠ 40 → f ≠ 41 → z.1 f = m.1 f) ∧ (∀ f, f ≠ 3 → f ≠ 5 → f < 25 ∨ 39 < f → z.2 f = m.2 f) ∧ ∀ f, (z.2 f).1 = (m.2 f).1
/-- laid out anew for another score -/
theorem ax_lay {b' u z : ab_Ob} (hb : sc_ok b') (hdd : sc_dd b') (n1 : 1 ≤ b'.1 3) (h14 : ¬ u.1 14 = 0) (hp : md_p b' u) (hl : md_len u) (hl2 : md_len2 u) (hz : md_lf u z ∧ md_d b' z ∧ md_all z (sc_br b') (b'.1 3) ∧ mt_ok z (sc_br b') (b'.1 3)) : mi_I b' z := by
  obtain ⟨lf, hd, all, ok⟩ := hz
  exact ⟨by rw [lf.1 14 (by decide) (by decide)]; exact h14, hb, hdd, n1, md_lf_p lf hp, hd, md_lf_len lf hl, md_lf_len2 lf hl2, all, ok, n1, hb.2.1.2⟩
theorem md_len_of {m u : ab_Ob} (h : ∀ f, (u.2 f).1 = (m.2 f).1) (hl : md_len m) : md_len u := by
  unfold md_len
  simp only [h]
  exact hl
theorem md_len2_of {m u : ab_Ob} (h : ∀ f, (u.2 f).1 = (m.2 f).1) (hl : md_len2 m) : md_len2 u := by
  unfold md_len2
  simp only [h]
  exact hl
theorem c9_sets (d : Nat) {b b' m : ab_Ob} (h : mi_I b m) (h9 : 0 ≤ m.1 9 ∧ m.1 9 ≤ 10) (h5 : (m.2 5).1 = 550) (hb : sc_ok b') (hdd : sc_dd b') (n1 : 1 ≤ b'.1 3) {a v : Int} (ha : 0 ≤ a ∧ a < 55) (hp : md_p b' (ab_pa m 3 a v)) : ab_Ct (d + 8) 0 0 mX9_sets [ab_O 0, ab_I a, ab_I v] [m] (fun rv w => rv = some (ab_I ((m.2 3).2 a)) ∧ ∃ z, w = [z] ∧ ax_f m z ∧ re_p m z ∧ mi_I b' z ∧ z.1 0 = m.1 0 ∧ z.1 1 = 0 ∧ z.1 2 = -1) := by
  obtain ⟨i1, hb0, hdd0, n10, hp0, hq, hT⟩ := id h
  have n3 := hT.1.1
  refine ab_ct kX9_sets rfl rfl (fun x hx => vX9_sets_0 hx a v m 0 0 (ab_xv1 (c9_remembers (d + 6) h9 n3 h5) (fun u hu => ?_)))
  obtain ⟨up, u1, u2, u5⟩ := hu
  have ul : ∀ f, (u.2 f).1 = (m.2 f).1 := fun f => by
    by_cases e : f = 5
    · subst e; rw [u5, h5]
    · rw [u2 f e]
  have l3 : (u.2 3).1 = 55 := by rw [ul]; exact n3
  have ul' : ∀ f, ((ab_pa u 3 a v).2 f).1 = (m.2 f).1 := fun f => by rw [hd_pa_len]; exact ul f
  have e3 : (u.2 3).2 a = (m.2 3).2 a := by rw [u2 3 (by decide)]
  have hl := md_len_of ul' hT.1
  have hl2 := md_len2_of ul' hT.2.1
  have h14 : ¬ (ab_pa u 3 a v).1 14 = 0 := by
    show ¬ u.1 14 = 0
    rw [u1 14 (by decide)]
    exact i1
  have hp' : md_p b' (ab_pa u 3 a v) := by
    rw [md_p_x] at hp ⊢
    refine ⟨⟨?_, ?_, ?_⟩, ?_⟩
    · show u.1 8 = _
      rw [u1 8 (by decide)]; exact hp.1.1
    · show u.1 6 = _
      rw [u1 6 (by decide)]; exact hp.1.2.1
    · show u.1 7 = _
      rw [u1 7 (by decide)]; exact hp.1.2.2
    · have : (ab_pa u 3 a v).2 3 = (ab_pa m 3 a v).2 3 := by rw [hd_pa_eq, hd_pa_eq, u2 3 (by decide)]
      rw [this]
      exact hp.2
  refine ⟨by omega, by omega, ab_xv1 (c9_lays d b' (ab_pa u 3 a v) hb hdd n1 hp' hl hl2) (fun z hz => ⟨_, c9_good (d + 6) z _, fun r w hw => ?_⟩)⟩
  obtain ⟨e1, e2⟩ := hw
  cases e1
  cases e2
  have hI := ax_lay hb hdd n1 h14 hp' hl hl2 hz
  obtain ⟨lf, -, -, -⟩ := hz
  refine ⟨⟨⟨_, rfl⟩, _, _, rfl, rfl⟩, by rw [e3], _, rfl, ⟨fun f f0 f1 f2 f9 f40 f41 => ?_, fun f f3 f5 hf => ?_, fun f => ?_⟩, ⟨?_, ?_, ?_⟩, hI, ?_, rfl, rfl⟩
  · rw [hd_pf_ne f2, hd_pf_ne f1, lf.1 f f40 f41]
    exact u1 f f9
  · rw [hd_pf_2, hd_pf_2, lf.2.1 f (by omega), hd_pa_ne f3]
    exact u2 f f5
  · rw [hd_pf_2, hd_pf_2, lf.2.2]
    exact ul' f
  · show z.1 9 = _
    rw [lf.1 9 (by decide) (by decide)]
    exact up.1
  · intro k k0 k1
    show (z.2 5).2 _ = _
    rw [lf.2.1 5 (by omega)]
    exact up.2.1 k k0 k1
  · intro k k0 k1
    show (z.2 5).2 _ = _
    rw [lf.2.1 5 (by omega)]
    exact up.2.2 k k0 k1
  · show z.1 0 = _
    rw [lf.1 0 (by decide) (by decide)]
    exact u1 0 (by decide)
/-- an act's end: granted with a new score, or refused -/
def ax_ok (b' m z : ab_Ob) : Prop := ax_f m z ∧ re_p m z ∧ mi_I b' z ∧ z.1 0 = 0 ∧ z.1 1 = 0 ∧ z.1 2 = -1
abbrev ab_Ax (b' m : ab_Ob) (R : Int) : Option ab_V → List ab_Ob → Prop := fun rv w => rv = some (ab_I R) ∧ ∃ z, w = [z] ∧ ax_ok b' m z
theorem ax_set {d : Nat} {b b' m : ab_Ob} (h : mi_I b m) (h9 : 0 ≤ m.1 9 ∧ m.1 9 ≤ 10) (h5 : (m.2 5).1 = 550) (hb : sc_ok b') (hdd : sc_dd b') (n1 : 1 ≤ b'.1 3) {a v R : Int} (ha : 0 ≤ a ∧ a < 55) (hp : md_p b' (ab_pa m 3 a v)) (e : (m.2 3).2 a = R) : ∃ Q : Option ab_V → List ab_Ob → Prop, ab_Ct (d + 8) 0 0 mX9_sets [ab_O 0, ab_I a, ab_I v] [ab_pf m 0 0] Q ∧ ∀ (r : Int) (w : ab_Ob), Q (some (ab_I r)) [w] → (((∃ z : Int, some (ab_I r) = some (ab_I z)) ∧ ab_shw [true] [m] [w]) ∧ (some (ab_I r) = some (ab_I R) ∧ ∃ z, [w] = [z] ∧ ax_ok b' m z)) :=
  ⟨_, c9_sets d (m := ab_pf m 0 0) (mi_I_0 h) h9 h5 hb hdd n1 ha hp, fun r w hw => by
    obtain ⟨e1, z, e2, f, p, q, r0, r1, r2⟩ := hw
    cases e2
    refine ⟨⟨⟨_, rfl⟩, _, _, rfl, rfl⟩, ?_, _, rfl, ⟨fun g g0 g1 g2 g9 g40 g41 => ?_, f.2.1, f.2.2⟩, p, q, r0, r1, r2⟩
    · rw [e1, ← e]; rfl
    · rw [f.1 g g0 g1 g2 g9 g40 g41]
      exact hd_pf_ne g0⟩
theorem c9_pitch (d : Nat) {b b' m : ab_Ob} (h : mi_I b m) (h9 : 0 ≤ m.1 9 ∧ m.1 9 ≤ 10) (h5 : (m.2 5).1 = 550) (hb : sc_ok b') (hdd : sc_dd b') (n1 : 1 ≤ b'.1 3) {k v : Int} (hk : 0 ≤ k ∧ k < b.1 3) (hv : 0 ≤ v ∧ v ≤ 99) (hp : md_p b' (ab_pa m 3 k v)) : ab_Ct (d + 9) 0 0 mX9_pitch [ab_O 0, ab_I k, ab_I v] [m] (ab_Ax b' m ((b.2 4).2 k)) := by
  have hn := h.2.1.2.1
  refine ab_ct kX9_pitch rfl rfl (fun x hx => vX9_pitch_0 hx k v m 0 0 (ab_xb (c9_isNote (d + 6) (Or.inr (mi_I_0 h)) k) (fun _ => ⟨fun _ => ab_xb (c9_in (d + 7) v 0 99) (fun _ => ⟨fun g => absurd g (by decide), fun _ => ⟨by omega, ?_⟩⟩) (fun p => absurd hv p), fun g => absurd g (by decide)⟩) (fun p => absurd hk p)))
  rw [show (0 : Int) + k = k by omega]
  exact ax_set h h9 h5 hb hdd n1 (by omega) hp (h.2.2.2.2.1.2.2.2.2.1 k hk.1 hk.2).1
theorem c9_last (d : Nat) {b b' m : ab_Ob} (h : mi_I b m) (h9 : 0 ≤ m.1 9 ∧ m.1 9 ≤ 10) (h5 : (m.2 5).1 = 550) (hb : sc_ok b') (hdd : sc_dd b') (n1 : 1 ≤ b'.1 3) {k v : Int} (hk : 0 ≤ k ∧ k < b.1 3) (hv : 1 ≤ v ∧ v ≤ 64) (hp : md_p b' (ab_pa m 3 (24 + k) v)) : ab_Ct (d + 9) 0 0 mX9_last [ab_O 0, ab_I k, ab_I v] [m] (ab_Ax b' m ((b.2 5).2 k)) := by
  have hn := h.2.1.2.1
  refine ab_ct kX9_last rfl rfl (fun x hx => vX9_last_0 hx k v m 0 0 (ab_xb (c9_isNote (d + 6) (Or.inr (mi_I_0 h)) k) (fun _ => ⟨fun _ => ab_xb (c9_in (d + 7) v 1 64) (fun _ => ⟨fun g => absurd g (by decide), fun _ => ⟨by omega, ?_⟩⟩) (fun p => absurd hv p), fun g => absurd g (by decide)⟩) (fun p => absurd hk p)))
  exact ax_set h h9 h5 hb hdd n1 (by omega) hp (h.2.2.2.2.1.2.2.2.2.1 k hk.1 hk.2).2
theorem c9_weigh (d : Nat) {b b' m : ab_Ob} (h : mi_I b m) (h9 : 0 ≤ m.1 9 ∧ m.1 9 ≤ 10) (h5 : (m.2 5).1 = 550) (hb : sc_ok b') (hdd : sc_dd b') (n1 : 1 ≤ b'.1 3) {k v : Int} (hk : 0 ≤ k ∧ k < 6) (hv : 0 ≤ v ∧ v ≤ 99) (hp : md_p b' (ab_pa m 3 (48 + k) v)) : ab_Ct (d + 9) 0 0 mX9_weigh [ab_O 0, ab_I k, ab_I v] [m] (ab_Ax b' m ((b.2 6).2 k)) := by
  refine ab_ct kX9_weigh rfl rfl (fun x hx => vX9_weigh_0 hx k v m 0 0 ⟨fun g => absurd g h.1, fun _ => ab_xb (c9_isRule (d + 6) k) (fun _ => ⟨fun _ => ab_xb (c9_in (d + 7) v 0 99) (fun _ => ⟨fun g => absurd g (by decide), fun _ => ⟨by omega, ?_⟩⟩) (fun p => absurd hv p), fun g => absurd g (by decide)⟩) (fun p => absurd hk p)⟩)
  exact ax_set h h9 h5 hb hdd n1 (by omega) hp (h.2.2.2.2.1.2.2.2.2.2 k hk.1 hk.2)
theorem c9_key (d : Nat) {b b' m : ab_Ob} (h : mi_I b m) (h9 : 0 ≤ m.1 9 ∧ m.1 9 ≤ 10) (h5 : (m.2 5).1 = 550) (hb : sc_ok b') (hdd : sc_dd b') (n1 : 1 ≤ b'.1 3) {v : Int} (hv : 0 ≤ v ∧ v ≤ 11) (hp : md_p b' (ab_pa m 3 54 v)) : ab_Ct (d + 9) 0 0 mX9_key [ab_O 0, ab_I v] [m] (ab_Ax b' m (b.1 2)) := by
  refine ab_ct kX9_key rfl rfl (fun x hx => vX9_key_0 hx v m 0 0 ⟨fun _ => ab_xb (c9_in (d + 7) v 0 11) (fun _ => ⟨fun g => absurd g (by decide), fun _ => ?_⟩) (fun p => absurd hv p), fun g => absurd g h.1⟩)
  exact ax_set h h9 h5 hb hdd n1 (by omega) hp h.2.2.2.2.1.2.2.2.1
/-! refused acts -/
theorem c9_pitch0 (d : Nat) {b m : ab_Ob} (h : mi_S b m) (k v : Int) (hz : ¬ ((0 ≤ k ∧ k < b.1 3) ∧ 0 ≤ v ∧ v ≤ 99)) : ab_Ct (d + 3) 0 0 mX9_pitch [ab_O 0, ab_I k, ab_I v] [m] (ab_Is (-1) [md_an m (if 0 ≤ k ∧ k < b.1 3 then 2 else 1)]) := by
  refine ab_ct kX9_pitch rfl rfl (fun x hx => vX9_pitch_0 hx k v m 0 0 (ab_xb (c9_isNote d (mi_S_0 h) k) (fun p => ⟨fun _ => ab_xb (c9_in (d + 1) v 0 99) (fun p2 => absurd ⟨p, p2⟩ hz) (fun p2 => ⟨fun _ => ?_, fun g => absurd rfl g⟩), fun g => absurd g (by decide)⟩) (fun p => ⟨fun g => absurd rfl g, fun _ => ?_⟩)))
  · rw [if_pos p]
    exact md_rf (RT := (-1, 2)) rfl
  · rw [if_neg p]
    exact md_rf (RT := (-1, 1)) rfl
theorem c9_last0 (d : Nat) {b m : ab_Ob} (h : mi_S b m) (k v : Int) (hz : ¬ ((0 ≤ k ∧ k < b.1 3) ∧ 1 ≤ v ∧ v ≤ 64)) : ab_Ct (d + 3) 0 0 mX9_last [ab_O 0, ab_I k, ab_I v] [m] (ab_Is (-1) [md_an m (if 0 ≤ k ∧ k < b.1 3 then 2 else 1)]) := by
  refine ab_ct kX9_last rfl rfl (fun x hx => vX9_last_0 hx k v m 0 0 (ab_xb (c9_isNote d (mi_S_0 h) k) (fun p => ⟨fun _ => ab_xb (c9_in (d + 1) v 1 64) (fun p2 => absurd ⟨p, p2⟩ hz) (fun p2 => ⟨fun _ => ?_, fun g => absurd rfl g⟩), fun g => absurd g (by decide)⟩) (fun p => ⟨fun g => absurd rfl g, fun _ => ?_⟩)))
  · rw [if_pos p]
    exact md_rf (RT := (-1, 2)) rfl
  · rw [if_neg p]
    exact md_rf (RT := (-1, 1)) rfl
theorem c9_weigh0 (d : Nat) {b m : ab_Ob} (h : mi_S b m) (k v : Int) (hz : ¬ ((1 ≤ b.1 3 ∧ 0 ≤ k ∧ k < 6) ∧ 0 ≤ v ∧ v ≤ 99)) : ab_Ct (d + 3) 0 0 mX9_weigh [ab_O 0, ab_I k, ab_I v] [m] (ab_Is (-1) [md_an m (if 1 ≤ b.1 3 ∧ 0 ≤ k ∧ k < 6 then 2 else 1)]) := by
  refine ab_ct kX9_weigh rfl rfl (fun x hx => vX9_weigh_0 hx k v m 0 0 ?_)
  rcases h with ⟨h1, h2, h3⟩ | h
  · refine ⟨fun _ => ?_, fun g => absurd h1 g⟩
    rw [if_neg (by omega)]
    exact md_rf (RT := (-1, 1)) rfl
  · have n1 := h.2.2.2.1
    refine ⟨fun g => absurd g h.1, fun _ => ab_xb (c9_isRule d k) (fun p => ⟨fun _ => ab_xb (c9_in (d + 1) v 0 99) (fun p2 => absurd ⟨⟨n1, p⟩, p2⟩ hz) (fun p2 => ⟨fun _ => ?_, fun g => absurd rfl g⟩), fun g => absurd g (by decide)⟩) (fun p => ⟨fun g => absurd rfl g, fun _ => ?_⟩)⟩
    · rw [if_pos ⟨n1, p⟩]
      exact md_rf (RT := (-1, 2)) rfl
    · rw [if_neg (fun q => p q.2)]
      exact md_rf (RT := (-1, 1)) rfl
theorem c9_key0 (d : Nat) {b m : ab_Ob} (h : mi_S b m) (v : Int) (hz : ¬ (1 ≤ b.1 3 ∧ 0 ≤ v ∧ v ≤ 11)) : ab_Ct (d + 3) 0 0 mX9_key [ab_O 0, ab_I v] [m] (ab_Is (-1) [md_an m (if 1 ≤ b.1 3 then 2 else 1)]) := by
  refine ab_ct kX9_key rfl rfl (fun x hx => vX9_key_0 hx v m 0 0 ?_)
  rcases h with ⟨h1, h2, h3⟩ | h
  · refine ⟨fun g => absurd h1 g, fun _ => ?_⟩
    rw [if_neg (by omega)]
    exact md_rf (RT := (-1, 1)) rfl
  · have n1 := h.2.2.2.1
    refine ⟨fun _ => ab_xb (c9_in (d + 1) v 0 11) (fun p2 => absurd ⟨n1, p2⟩ hz) (fun p2 => ⟨fun _ => ?_, fun g => absurd rfl g⟩), fun g => absurd g h.1⟩
    rw [if_pos n1]
    exact md_rf (RT := (-1, 2)) rfl
/-! moving -/
theorem c9_move (d : Nat) {b b' m : ab_Ob} (h : mi_I b m) (h9 : 0 ≤ m.1 9 ∧ m.1 9 ≤ 10) (h5 : (m.2 5).1 = 550) (hb : sc_ok b') (hdd : sc_dd b') (n1 : b'.1 3 = b.1 3) (e0 : b'.1 0 = b.1 0) (e1 : b'.1 1 = b.1 1) {v : Int} (hv : -99 ≤ v ∧ v ≤ 99) (hcm : sc_cm b v) (hx : md_x b' (fun k => if 0 ≤ k ∧ k < b.1 3 then (m.2 3).2 k + v else (m.2 3).2 k)) : ab_Ct (d + 8) 0 0 mX9_move [ab_O 0, ab_I v] [m] (ab_Ax b' m (an_B b' 0 (b.1 3 - 1))) := by
  obtain ⟨i1, hb0, hdd0, n10, hp0, hq, hT⟩ := id h
  have hn := hb0.2.1
  have n3 := hT.1.1
  have e8 : m.1 8 = b.1 3 := hp0.1
  refine ab_ct kX9_move rfl rfl (fun x hx' => ?_)
  have k79 : ∀ (q : Nat) (t : Int) (u : ab_Ob), t + q = b.1 3 → 0 ≤ t → re_p m u → (∀ f, f ≠ 0 → f ≠ 9 → u.1 f = m.1 f) → u.1 0 = 0 → (∀ f, f ≠ 3 → f ≠ 5 → u.2 f = m.2 f) → (∀ f, (u.2 f).1 = (m.2 f).1) → (∀ k : Int, (u.2 3).2 k = if 0 ≤ k ∧ k < t then (m.2 3).2 k + v else (m.2 3).2 k) → ab_J x 79 [some (ab_O 0), some (ab_I v), some (ab_I t)] [] [u] 0 0 := by
    intro q
    induction q with
    | zero =>
      intro t u ht t0 rp u1 u0 u2 ul ux
      have et : t = b.1 3 := by omega
      subst et
      have l3 : (u.2 3).1 = 55 := by rw [ul]; exact n3
      have hl := md_len_of ul hT.1
      have hl2 := md_len2_of ul hT.2.1
      have h14 : ¬ u.1 14 = 0 := by rw [u1 14 (by decide) (by decide)]; exact i1
      have e8u : u.1 8 = b.1 3 := by rw [u1 8 (by decide) (by decide)]; exact e8
      have hp' : md_p b' u := by
        rw [md_p_x]
        refine ⟨⟨by omega, by rw [u1 6 (by decide) (by decide), e0]; exact hp0.2.1, by rw [u1 7 (by decide) (by decide), e1]; exact hp0.2.2.1⟩, ?_⟩
        have : (u.2 3).2 = (fun k => if 0 ≤ k ∧ k < b.1 3 then (m.2 3).2 k + v else (m.2 3).2 k) := funext ux
        rw [this]
        exact hx
      refine vX9_move_79 hx' _ _ u 0 0 ⟨fun _ => ab_xv1 (c9_lays d b' u hb hdd (by omega) hp' hl hl2) (fun z hz => ?_), fun g => absurd (by omega) g⟩
      have hI := ax_lay hb hdd (by omega) h14 hp' hl hl2 hz
      obtain ⟨lf, -, -, -⟩ := hz
      have e8z : z.1 8 = b.1 3 := by rw [lf.1 8 (by decide) (by decide)]; exact e8u
      have hH := dp_H_in (c := sc_br b') (i := 0) (j := b.1 3 - 1) (by omega)
      have cu := md_cu_b (i := 0) (j := b.1 3 - 1) (h := dp_H (sc_br b') 0 (b.1 3 - 1)) (by omega) (by omega) (by omega)
      have e27 : (z.2 27).2 (md_cu 0 (b.1 3 - 1) (dp_H (sc_br b') 0 (b.1 3 - 1))) = an_B b' 0 (b.1 3 - 1) := (hI.2.2.2.2.2.2.2.2.1 0 (b.1 3 - 1) _ (by omega) (by omega) (by omega) hH.1 hH.2).1
      have l27 := hI.2.2.2.2.2.2.1.2.2.2.1
      rw [e8z]
      refine ⟨by omega, by omega, ab_x1 (c9_headOf' (d + 5) hI (by omega) (by omega) (by omega)) (ab_x1 (c9_cube (d + 6) (by omega) (by omega) (by omega)) ⟨by omega, ?_⟩)⟩
      rw [e27]
      refine ⟨_, c9_good (d + 6) z _, fun r w hw => ?_⟩
      obtain ⟨y1, y2⟩ := hw
      cases y1
      cases y2
      refine ⟨⟨⟨_, rfl⟩, _, _, rfl, rfl⟩, rfl, _, rfl, ⟨fun f f0 f1 f2 f9 f40 f41 => ?_, fun f f3 f5 hf => ?_, fun f => ?_⟩, ⟨?_, ?_, ?_⟩, hI, ?_, rfl, rfl⟩
      · rw [hd_pf_ne f2, hd_pf_ne f1, lf.1 f f40 f41]
        exact u1 f f0 f9
      · rw [hd_pf_2, hd_pf_2, lf.2.1 f (by omega)]
        exact u2 f f3 f5
      · rw [hd_pf_2, hd_pf_2, lf.2.2]
        exact ul f
      · show z.1 9 = _
        rw [lf.1 9 (by decide) (by decide)]
        exact rp.1
      · intro k k0 k1
        show (z.2 5).2 _ = _
        rw [lf.2.1 5 (by omega)]
        exact rp.2.1 k k0 k1
      · intro k k0 k1
        show (z.2 5).2 _ = _
        rw [lf.2.1 5 (by omega)]
        exact rp.2.2 k k0 k1
      · show z.1 0 = _
        rw [lf.1 0 (by decide) (by decide)]
        exact u0
    | succ q ih =>
      intro t u ht t0 rp u1 u0 u2 ul ux
      push_cast at ht
      have l3 : (u.2 3).1 = 55 := by rw [ul]; exact n3
      have e8u : u.1 8 = b.1 3 := by rw [u1 8 (by decide) (by decide)]; exact e8
      have ez : (0 : Int) + t = t := by omega
      have et : (u.2 3).2 t = (b.2 4).2 t := by
        rw [ux, if_neg (by omega)]
        exact (hp0.2.2.2.2.1 t t0 (by omega)).1
      have em : (m.2 3).2 t = (b.2 4).2 t := (hp0.2.2.2.2.1 t t0 (by omega)).1
      have pb := (hb0.2.2.2.2.2.1 t t0 (by omega)).1
      refine vX9_move_79 hx' _ _ u 0 0 ⟨fun g => absurd g (by omega), fun _ => ?_⟩
      rw [ez, et]
      refine ⟨by omega, by omega, by omega, by omega, by omega, ih (t + 1) _ (by omega) (by omega) rp u1 u0 (fun f f3 f5 => by rw [hd_pa_ne f3]; exact u2 f f3 f5) (fun f => by rw [hd_pa_len]; exact ul f) (fun k => ?_)⟩
      rw [hd_pa_eq]
      show ab_ui (u.2 3).2 t _ k = _
      by_cases e : k = t
      · subst e
        rw [hd_ui_eq, if_pos (by omega), em]
      · rw [hd_ui_ne e, ux]
        by_cases g : 0 ≤ k ∧ k < t
        · rw [if_pos g, if_pos (by omega)]
        · rw [if_neg g, if_neg (by omega)]
  have k37 : ∀ (q : Nat) (t : Int), t + q = b.1 3 → 0 ≤ t → ab_J x 37 [some (ab_O 0), some (ab_I v), some (ab_I t)] [] [ab_pf m 0 0] 0 0 := by
    intro q
    induction q with
    | zero =>
      intro t ht t0
      refine vX9_move_37 hx' _ _ _ 0 0 ⟨fun _ => ab_xv1 (c9_remembers (d + 6) (m := ab_pf m 0 0) h9 n3 h5) (fun u hu => ?_), fun g => absurd (by show m.1 8 ≤ _; omega) g⟩
      obtain ⟨rp, u1, u2, u5⟩ := hu
      refine k79 (b.1 3).toNat 0 u (by omega) (by omega) rp (fun f f0 f9 => by rw [u1 f f9]; exact hd_pf_ne f0) (by rw [u1 0 (by decide)]; rfl) (fun f f3 f5 => u2 f f5) (fun f => ?_) (fun k => ?_)
      · by_cases e : f = 5
        · subst e; rw [u5, h5]
        · rw [u2 f e]; rfl
      · rw [if_neg (by omega), u2 3 (by decide)]
        rfl
    | succ q ih =>
      intro t ht t0
      push_cast at ht
      have et : ((ab_pf m 0 0).2 3).2 t = (b.2 4).2 t := (hp0.2.2.2.2.1 t t0 (by omega)).1
      have pb := (hb0.2.2.2.2.2.1 t t0 (by omega)).1
      have cm := hcm t t0 (by omega)
      refine vX9_move_37 hx' _ _ _ 0 0 ⟨fun g => absurd g (by show ¬ m.1 8 ≤ _; omega), fun _ => ab_x1 (c9_pitchOf (d + 6) (ab_pf m 0 0) n3 t0 (by omega)) ?_⟩
      rw [et]
      exact ⟨by omega, ab_xb (c9_in (d + 6) _ 0 99) (fun _ => ⟨fun _ => ⟨by omega, ih (t + 1) (by omega) (by omega)⟩, fun g => absurd g (by decide)⟩) (fun p => absurd cm p)⟩
  exact vX9_move_0 hx' v m 0 0 ⟨fun _ => ab_xb (c9_in (d + 6) v (-99) 99) (fun _ => ⟨fun _ => k37 (b.1 3).toNat 0 (by omega) (by omega), fun g => absurd g (by decide)⟩) (fun p => absurd hv p), fun g => absurd g i1⟩
theorem c9_move0 (d : Nat) {b m : ab_Ob} (h : mi_S b m) (v : Int) (hz : ¬ (1 ≤ b.1 3 ∧ (-99 ≤ v ∧ v ≤ 99) ∧ sc_cm b v)) : ab_Ct (d + 3) 0 0 mX9_move [ab_O 0, ab_I v] [m] (ab_Is (-1) [md_an m (if 1 ≤ b.1 3 then (if -99 ≤ v ∧ v ≤ 99 then 5 else 2) else 1)]) := by
  refine ab_ct kX9_move rfl rfl (fun x hx => vX9_move_0 hx v m 0 0 ?_)
  rcases h with ⟨h1, h2, h3⟩ | h
  · refine ⟨fun g => absurd h1 g, fun _ => ?_⟩
    rw [if_neg (by omega)]
    exact md_rf (RT := (-1, 1)) rfl
  · obtain ⟨i1, hb0, hdd0, n1, hp0, hq, hT⟩ := id h
    have hn := hb0.2.1
    have n3 := hT.1.1
    have e8 : m.1 8 = b.1 3 := hp0.1
    refine ⟨fun _ => ab_xb (c9_in (d + 1) v (-99) 99) (fun p => ⟨fun _ => ?_, fun g => absurd g (by decide)⟩) (fun p => ⟨fun g => absurd rfl g, fun _ => ?_⟩), fun g => absurd g i1⟩
    · have k37 : ∀ (q : Nat) (t : Int), t + q = b.1 3 → 0 ≤ t → (∀ k : Int, 0 ≤ k → k < t → 0 ≤ (b.2 4).2 k + v ∧ (b.2 4).2 k + v ≤ 99) → ab_J x 37 [some (ab_O 0), some (ab_I v), some (ab_I t)] [] [ab_pf m 0 0] 0 0 := by
        intro q
        induction q with
        | zero =>
          intro t ht t0 hall
          exact absurd ⟨n1, p, fun k k0 k1 => hall k k0 (by omega)⟩ hz
        | succ q ih =>
          intro t ht t0 hall
          push_cast at ht
          have et : ((ab_pf m 0 0).2 3).2 t = (b.2 4).2 t := (hp0.2.2.2.2.1 t t0 (by omega)).1
          have pb := (hb0.2.2.2.2.2.1 t t0 (by omega)).1
          refine vX9_move_37 hx _ _ _ 0 0 ⟨fun g => absurd g (by show ¬ m.1 8 ≤ _; omega), fun _ => ab_x1 (c9_pitchOf (d + 1) (ab_pf m 0 0) n3 t0 (by omega)) ?_⟩
          rw [et]
          refine ⟨by omega, ab_xb (c9_in (d + 1) _ 0 99) (fun p2 => ⟨fun _ => ⟨by omega, ih (t + 1) (by omega) (by omega) (fun k k0 k1 => ?_)⟩, fun g => absurd g (by decide)⟩) (fun p2 => ⟨fun g => absurd rfl g, fun _ => ?_⟩)⟩
          · by_cases e : k = t
            · subst e; exact p2
            · exact hall k k0 (by omega)
          · rw [if_pos n1, if_pos p]
            exact md_rf (RT := (-1, 5)) rfl
      exact k37 (b.1 3).toNat 0 (by omega) (by omega) (fun k k0 k1 => absurd k1 (by omega))
    · rw [if_pos n1, if_neg p]
      exact md_rf (RT := (-1, 2)) rfl
