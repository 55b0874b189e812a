/-! Score: what its methods answer -/
def sc_ex (a b : Int) : Int := if b < a then a - b else 0
def sc_abs (z : Int) : Int := if 0 ≤ z then z else 0 - z
theorem c_excess (d : Nat) (a b : Int) (h : -1000000 ≤ a ∧ a ≤ 1000000) (h' : -1000000 ≤ b ∧ b ≤ 1000000) : ab_Ct (d + 1) 0 0 mX5_excess [ab_I a, ab_I b] [] (ab_Is (sc_ex a b) []) := by
  refine ab_ct kX5_excess rfl rfl (fun x hx => vX5_excess_0 hx a b 0 0 ⟨fun h => ab_lf rfl ?_, fun h => ⟨by omega, ab_lf rfl ?_⟩⟩)
  · unfold sc_ex; rw [if_neg (by omega)]
  · unfold sc_ex; rw [if_pos (by omega)]
/-- what a joining breaks by a rule, as if its weight were 1 -/
def sc_un (w : ab_Ob) (rule h u l r : Int) : Int :=
  if rule = 0 then sc_ex ((w.2 8).2 u) ((w.2 8).2 h) else if rule = 1 then sc_ex ((w.2 5).2 u) ((w.2 5).2 h) else if rule = 2 then sc_ex ((w.2 9).2 u) ((w.2 9).2 h) else if rule = 3 then sc_ex (sc_abs ((w.2 4).2 u - (w.2 4).2 h)) 2 else if rule = 4 then sc_abs (l - r) else if rule = 5 then (if u = w.1 3 - 1 then 1 else 0) else 0
/-- lengths of the arrays -/
def sc_len (w : ab_Ob) : Prop := (w.2 4).1 = 24 ∧ (w.2 5).1 = 24 ∧ (w.2 6).1 = 6 ∧ (w.2 7).1 = 24 ∧ (w.2 8).1 = 24 ∧ (w.2 9).1 = 24
/-- a piece whose numbers are in their bounds -/
def sc_ok (w : ab_Ob) : Prop :=
  sc_len w ∧ (0 ≤ w.1 3 ∧ w.1 3 ≤ 24) ∧ (1 ≤ w.1 0 ∧ w.1 0 ≤ 64) ∧ (1 ≤ w.1 1 ∧ w.1 1 ≤ 64) ∧ (0 ≤ w.1 2 ∧ w.1 2 ≤ 11) ∧
  (∀ k : Int, 0 ≤ k → k < w.1 3 → (0 ≤ (w.2 4).2 k ∧ (w.2 4).2 k ≤ 99) ∧ (1 ≤ (w.2 5).2 k ∧ (w.2 5).2 k ≤ 64)) ∧ (∀ r : Int, 0 ≤ r → r < 6 → 0 ≤ (w.2 6).2 r ∧ (w.2 6).2 r ≤ 99)
/-- the derived numbers are in their bounds -/
def sc_db (w : ab_Ob) : Prop := ∀ k : Int, 0 ≤ k → k < w.1 3 → (0 ≤ (w.2 8).2 k ∧ (w.2 8).2 k ≤ 3) ∧ (0 ≤ (w.2 9).2 k ∧ (w.2 9).2 k ≤ 2)
theorem sc_un_b {w : ab_Ob} (hw : sc_ok w) (hd : sc_db w) {rule h u l r : Int} (hh : 0 ≤ h ∧ h < w.1 3) (hu : 0 ≤ u ∧ u < w.1 3) (hl : 1 ≤ l ∧ l ≤ 24) (hr : 1 ≤ r ∧ r ≤ 24) : 0 ≤ sc_un w rule h u l r ∧ sc_un w rule h u l r ≤ 99 := by
  obtain ⟨h1, h2, h3, h4, h5, h6, h7⟩ := hw
  have a1 := h6 h hh.1 hh.2
  have a2 := h6 u hu.1 hu.2
  have a3 := hd h hh.1 hh.2
  have a4 := hd u hu.1 hu.2
  unfold sc_un sc_ex sc_abs
  repeat' split
  all_goals omega
theorem c_units (d : Nat) (w : ab_Ob) (hw : sc_ok w) (hd : sc_db w) {rule h u l r : Int} (hh : 0 ≤ h ∧ h < w.1 3) (hu : 0 ≤ u ∧ u < w.1 3) (hl : 1 ≤ l ∧ l ≤ 24) (hr : 1 ≤ r ∧ r ≤ 24) : ab_Ct (d + 2) 0 0 mX5_units [ab_O 0, ab_I rule, ab_I h, ab_I u, ab_I l, ab_I r] [w] (ab_Is (sc_un w rule h u l r) [w]) := by
  obtain ⟨⟨n4, n5, n6, n7, n8, n9⟩, h2, h3, h4, h5, h6, h7⟩ := hw
  have a1 := h6 h hh.1 hh.2
  have a2 := h6 u hu.1 hu.2
  have a3 := hd h hh.1 hh.2
  have a4 := hd u hu.1 hu.2
  refine ab_ct kX5_units rfl rfl (fun x hx => vX5_units_0 hx rule h u l r w 0 0 ⟨fun e => ab_lf rfl ?_, fun e => ⟨by omega, by omega, ab_x1 (c_excess d _ _ (by omega) (by omega)) (ab_lf rfl ?_)⟩, fun e => ⟨by omega, by omega, ab_x1 (c_excess d _ _ (by omega) (by omega)) (ab_lf rfl ?_)⟩, fun e => ⟨by omega, by omega, ab_x1 (c_excess d _ _ (by omega) (by omega)) (ab_lf rfl ?_)⟩, fun e => ⟨by omega, by omega, by omega, by omega, ab_x1 (c_excess d _ _ (by split <;> omega) (by omega)) (ab_lf rfl ?_)⟩, fun e => ⟨by omega, by omega, ab_lf rfl ?_⟩, fun e => ⟨by omega, fun f => ab_lf rfl ?_, fun f => ab_lf rfl ?_⟩, trivial⟩)
  · unfold sc_un
    rw [if_neg (by omega), if_neg (by omega), if_neg (by omega), if_neg (by omega), if_neg (by omega), if_neg (by omega)]
  · subst e; simp [sc_un]
  · subst e; simp [sc_un]
  · subst e; simp [sc_un]
  · subst e; simp [sc_un, sc_abs]
  · subst e; simp [sc_un, sc_abs]
  · subst e; simp [sc_un, f]
  · subst e; simp [sc_un, f]
def sc_br (w : ab_Ob) (h u l r : Int) : Int := hd_sm (fun q => (w.2 6).2 q * sc_un w q h u l r) 0 6
theorem sc_mul_b {a b : Int} (ha : 0 ≤ a ∧ a ≤ 99) (hb : 0 ≤ b ∧ b ≤ 99) : 0 ≤ a * b ∧ a * b ≤ 9801 := by
  constructor
  · exact Int.mul_nonneg ha.1 hb.1
  · have : a * b ≤ 99 * 99 := Int.mul_le_mul ha.2 hb.2 hb.1 (by omega)
    omega
theorem hd_sm_b {f : Int → Int} {i : Int} {B : Int} : ∀ {m : Nat}, (∀ k : Int, i ≤ k → k < i + m → 0 ≤ f k ∧ f k ≤ B) → 0 ≤ hd_sm f i m ∧ hd_sm f i m ≤ B * m
  | 0, _ => by simp [hd_sm]
  | m + 1, h => by
    have h1 := hd_sm_b (m := m) (fun k a b => h k a (by omega))
    have h2 := h (i + m) (by omega) (by omega)
    simp only [hd_sm]
    have : B * ((m + 1 : Nat) : Int) = B * m + B := by push_cast; rw [Int.mul_add, Int.mul_one]
    omega
theorem sc_br_b {w : ab_Ob} (hw : sc_ok w) (hd : sc_db w) {h u l r : Int} (hh : 0 ≤ h ∧ h < w.1 3) (hu : 0 ≤ u ∧ u < w.1 3) (hl : 1 ≤ l ∧ l ≤ 24) (hr : 1 ≤ r ∧ r ≤ 24) (m : Nat) (hm : m ≤ 6) : 0 ≤ hd_sm (fun q => (w.2 6).2 q * sc_un w q h u l r) 0 m ∧ hd_sm (fun q => (w.2 6).2 q * sc_un w q h u l r) 0 m ≤ 9801 * m :=
  hd_sm_b (fun k h1 h2 => sc_mul_b (hw.2.2.2.2.2.2 k h1 (by omega)) (sc_un_b hw hd hh hu hl hr))
theorem c_breaking (d : Nat) (w : ab_Ob) (hw : sc_ok w) (hd : sc_db w) {h u l r : Int} (hh : 0 ≤ h ∧ h < w.1 3) (hu : 0 ≤ u ∧ u < w.1 3) (hl : 1 ≤ l ∧ l ≤ 24) (hr : 1 ≤ r ∧ r ≤ 24) : ab_Ct (d + 3) 0 0 mX5_breaking [ab_O 0, ab_I h, ab_I u, ab_I l, ab_I r] [w] (ab_Is (sc_br w h u l r) [w]) := by
  refine ab_ct kX5_breaking rfl rfl (fun x hx => vX5_breaking_0 hx h u l r w 0 0 ?_)
  have n6 := hw.1.2.2.1
  have key : ∀ (j m : Nat), m + j = 6 → ab_J x 6 [some (ab_O 0), some (ab_I h), some (ab_I u), some (ab_I l), some (ab_I r), some (ab_I (hd_sm (fun q => (w.2 6).2 q * sc_un w q h u l r) 0 m)), some (ab_I m)] [] [w] 0 0 := by
    intro j
    induction j with
    | zero =>
      intro m hm
      have : m = 6 := by omega
      subst this
      exact vX5_breaking_6 hx _ _ _ _ _ _ w 0 0 ⟨fun _ => ab_lf rfl rfl, fun h => absurd (by omega) h⟩
    | succ j ih =>
      intro m hm
      have b1 := sc_br_b hw hd hh hu hl hr m (by omega)
      have b2 := sc_br_b hw hd hh hu hl hr (m + 1) (by omega)
      have b3 := sc_mul_b (hw.2.2.2.2.2.2 m (by omega) (by omega)) (sc_un_b hw hd (rule := m) hh hu hl hr)
      simp only [hd_sm, Int.zero_add] at b2
      refine vX5_breaking_6 hx _ _ _ _ _ _ w 0 0 ⟨fun h => absurd h (by omega), fun _ => ⟨by omega, ab_x1 (c_units d w hw hd hh hu hl hr) ⟨by omega, by omega, by omega, ?_⟩⟩⟩
      have := ih (m + 1) (by omega)
      simp only [hd_sm, Int.zero_add] at this
      exact this
  exact key 6 0 rfl
/-! multiples, strengths, stables -/
theorem c_isMultiple (d : Nat) (a b : Int) (ha : 0 ≤ a ∧ a ≤ 1000000) (hb : 1 ≤ b ∧ b ≤ 1000000) : ab_Ct (d + 1) 0 0 mX5_isMultiple [ab_I a, ab_I b] [] (ab_Bo (a.tmod b = 0) []) := by
  have h1 : 0 ≤ a.tmod b := Int.tmod_nonneg b ha.1
  have h2 : a.tmod b < b := Int.tmod_lt_of_pos a (by omega)
  exact ab_ct kX5_isMultiple rfl rfl (fun x hx => vX5_isMultiple_0 hx a b 0 0 ⟨fun h => absurd h (by omega), fun _ => ⟨by omega, by omega, fun h => ⟨ab_i01, ab_l0b rfl h⟩, fun h => ⟨ab_i11, ab_l1b rfl h⟩⟩⟩)
def sc_st (bar beat t : Int) : Int := if t.tmod bar = 0 then 3 else if (2 * t).tmod bar = 0 then 2 else if t.tmod beat = 0 then 1 else 0
def sc_sb (p k : Int) : Int := if (p - k) % 12 = 0 then 2 else if (p - k) % 12 = 4 ∨ (p - k) % 12 = 7 then 1 else 0
theorem c_strengthAt (d : Nat) (w : ab_Ob) (t : Int) (ht : 0 ≤ t ∧ t ≤ 10000) (h0 : 1 ≤ w.1 0 ∧ w.1 0 ≤ 64) (h1 : 1 ≤ w.1 1 ∧ w.1 1 ≤ 64) : ab_Ct (d + 2) 0 0 mX5_strengthAt [ab_O 0, ab_I t] [w] (ab_Is (sc_st (w.1 0) (w.1 1) t) [w]) := by
  refine ab_ct kX5_strengthAt rfl rfl (fun x hx => vX5_strengthAt_0 hx t w 0 0 (ab_xb (c_isMultiple d _ _ (by omega) (by omega)) (fun e => ⟨fun h => absurd h (by decide), fun _ => ab_lf rfl ?_⟩) (fun e => ⟨fun _ => ⟨by omega, ab_xb (c_isMultiple d _ _ (by omega) (by omega)) (fun e2 => ⟨fun h => absurd h (by decide), fun _ => ab_lf rfl ?_⟩) (fun e2 => ⟨fun _ => ab_xb (c_isMultiple d _ _ (by omega) (by omega)) (fun e3 => ⟨fun h => absurd h (by decide), fun _ => ab_lf rfl ?_⟩) (fun e3 => ⟨fun _ => ab_lf rfl ?_, fun h => absurd rfl h⟩), fun h => absurd rfl h⟩)⟩, fun h => absurd rfl h⟩)))
  · simp [sc_st, e]
  · simp [sc_st, e, e2]
  · simp [sc_st, e, e2, e3]
  · simp [sc_st, e, e2, e3]
theorem c_stableOf (d : Nat) (w : ab_Ob) (p : Int) (hp : 0 ≤ p ∧ p ≤ 99) (hk : 0 ≤ w.1 2 ∧ w.1 2 ≤ 11) : ab_Ct (d + 2) 0 0 mX5_stableOf [ab_O 0, ab_I p] [w] (ab_Is (sc_sb p (w.1 2)) [w]) := by
  refine ab_ct kX5_stableOf rfl rfl (fun x hx => vX5_stableOf_0 hx p w 0 0 ⟨by omega, ab_x1 (c_floorMod d _ (by omega)) ⟨fun h1 => ⟨fun h2 => ab_lf rfl ?_, fun h2 => ⟨fun h3 => ab_lf rfl ?_, fun h3 => ab_lf rfl ?_⟩⟩, fun h1 => ab_lf rfl ?_⟩⟩)
  · simp [sc_sb, h2]
  · simp [sc_sb, h1, h2, h3]
  · simp [sc_sb, h3]
  · simp [sc_sb, h1]
/-- the derived numbers of the first m notes are laid -/
def sc_dv (w v : ab_Ob) (m : Int) : Prop :=
  v.1 = w.1 ∧ (∀ f, f ≠ 7 → f ≠ 8 → f ≠ 9 → v.2 f = w.2 f) ∧ (v.2 7).1 = (w.2 7).1 ∧ (v.2 8).1 = (w.2 8).1 ∧ (v.2 9).1 = (w.2 9).1 ∧
  ∀ k : Int, 0 ≤ k → k < m → (v.2 7).2 k = hd_sm (w.2 5).2 0 k.toNat ∧ (v.2 8).2 k = sc_st (w.1 0) (w.1 1) (hd_sm (w.2 5).2 0 k.toNat) ∧ (v.2 9).2 k = sc_sb ((w.2 4).2 k) (w.1 2)
theorem c_derive (d : Nat) (w : ab_Ob) (hw : sc_ok w) : ab_Ct (d + 3) 0 0 mX5_derive [ab_O 0] [w] (ab_V1 (fun v => sc_dv w v (w.1 3))) := by
  refine ab_ct kX5_derive rfl rfl (fun x hx => vX5_derive_0 hx w 0 0 ?_)
  obtain ⟨⟨n4, n5, n6, n7, n8, n9⟩, h2, h3, h4, h5, h6, h7⟩ := hw
  have key : ∀ (j m : Nat) (v : ab_Ob), (m : Int) + j = w.1 3 → sc_dv w v m → ab_J x 4 [some (ab_O 0), some (ab_I (hd_sm (w.2 5).2 0 m)), some (ab_I m)] [] [v] 0 0 := by
    intro j
    induction j with
    | zero =>
      intro m v hm hv
      have e3 : v.1 3 = w.1 3 := by rw [hv.1]
      exact vX5_derive_4 hx _ _ v 0 0 ⟨fun _ => ab_lv1 (by rw [← (by omega : (m : Int) = w.1 3)]; exact hv), fun h => absurd (by omega) h⟩
    | succ j ih =>
      intro m v hm hv
      obtain ⟨g1, g2, g3, g4, g5, g6⟩ := id hv
      have e3 : v.1 3 = w.1 3 := by rw [g1]
      have e4 := g2 4 (by decide) (by decide) (by decide)
      have e5 := g2 5 (by decide) (by decide) (by decide)
      have hb := hd_sm_b (f := (w.2 5).2) (i := 0) (B := 64) (m := m) (fun k a b => by have := (h6 k a (by omega)).2; omega)
      have hl := (h6 m (by omega) (by omega))
      refine vX5_derive_4 hx _ _ v 0 0 ⟨fun h => absurd h (by omega), fun _ => ⟨by omega, ?_⟩⟩
      have cs := c_strengthAt d (ab_pa v 7 m (hd_sm (w.2 5).2 0 m)) (hd_sm (w.2 5).2 0 m) (by omega) (by rw [hd_pa_1, g1]; exact h3) (by rw [hd_pa_1, g1]; exact h4)
      refine ab_x1 cs ⟨by omega, by rw [e4]; omega, ?_⟩
      rw [hd_pa_1, g1]
      have cb := c_stableOf d (ab_pa (ab_pa v 7 m (hd_sm (w.2 5).2 0 m)) 8 m (sc_st (w.1 0) (w.1 1) (hd_sm (w.2 5).2 0 m))) ((v.2 4).2 m) (by rw [e4]; exact hl.1) (by rw [hd_pa_1, hd_pa_1, g1]; exact h5)
      refine ab_x1 cb ⟨by omega, by rw [e5]; omega, by rw [e5]; omega, by omega, ?_⟩
      rw [hd_pa_1, hd_pa_1, g1, e5, e4]
      have := ih (m + 1) (ab_pa (ab_pa (ab_pa v 7 m (hd_sm (w.2 5).2 0 m)) 8 m (sc_st (w.1 0) (w.1 1) (hd_sm (w.2 5).2 0 m))) 9 m (sc_sb ((w.2 4).2 m) (w.1 2))) (by push_cast; omega) ?_
      · simp only [hd_sm, Int.zero_add] at this
        exact this
      · refine ⟨g1, fun f f7 f8 f9 => ?_, ?_, ?_, ?_, fun k k1 k2 => ?_⟩
        · rw [hd_pa_ne f9, hd_pa_ne f8, hd_pa_ne f7]; exact g2 f f7 f8 f9
        · rw [hd_pa_len, hd_pa_len, hd_pa_len]; exact g3
        · rw [hd_pa_len, hd_pa_len, hd_pa_len]; exact g4
        · rw [hd_pa_len, hd_pa_len, hd_pa_len]; exact g5
        · have r7 : ((ab_pa (ab_pa (ab_pa v 7 m (hd_sm (w.2 5).2 0 m)) 8 m (sc_st (w.1 0) (w.1 1) (hd_sm (w.2 5).2 0 m))) 9 m (sc_sb ((w.2 4).2 m) (w.1 2))).2 7).2 = ab_ui (v.2 7).2 m (hd_sm (w.2 5).2 0 m) := by simp [ab_pa, ab_ua]
          have r8 : ((ab_pa (ab_pa (ab_pa v 7 m (hd_sm (w.2 5).2 0 m)) 8 m (sc_st (w.1 0) (w.1 1) (hd_sm (w.2 5).2 0 m))) 9 m (sc_sb ((w.2 4).2 m) (w.1 2))).2 8).2 = ab_ui (v.2 8).2 m (sc_st (w.1 0) (w.1 1) (hd_sm (w.2 5).2 0 m)) := by simp [ab_pa, ab_ua]
          have r9 : ((ab_pa (ab_pa (ab_pa v 7 m (hd_sm (w.2 5).2 0 m)) 8 m (sc_st (w.1 0) (w.1 1) (hd_sm (w.2 5).2 0 m))) 9 m (sc_sb ((w.2 4).2 m) (w.1 2))).2 9).2 = ab_ui (v.2 9).2 m (sc_sb ((w.2 4).2 m) (w.1 2)) := by simp [ab_pa, ab_ua]
          rw [r7, r8, r9]
          by_cases hk : k = m
          · subst hk
            rw [hd_ui_eq, hd_ui_eq, hd_ui_eq]
            have : (m : Int).toNat = m := by omega
            rw [this]
            exact ⟨rfl, rfl, rfl⟩
          · rw [hd_ui_ne hk, hd_ui_ne hk, hd_ui_ne hk]
            exact g6 k k1 (by push_cast at k2; omega)
  exact key (w.1 3).toNat 0 w (by have := h2.1; omega) ⟨rfl, fun _ _ _ _ => rfl, rfl, rfl, rfl, fun k a b => absurd b (by omega)⟩
/-! sums over notes and rules -/
theorem c_lasting (d : Nat) (w : ab_Ob) (hw : sc_ok w) {i j : Int} (hi : 0 ≤ i) (hij : i ≤ j + 1) (hj : j < w.1 3) : ab_Ct (d + 1) 0 0 mX5_lasting [ab_O 0, ab_I i, ab_I j] [w] (ab_Is (hd_sm (w.2 5).2 i (j + 1 - i).toNat) [w]) := by
  refine ab_ct kX5_lasting rfl rfl (fun x hx => vX5_lasting_0 hx i j w 0 0 ?_)
  obtain ⟨⟨n4, n5, n6, n7, n8, n9⟩, h2, h3, h4, h5, h6, h7⟩ := hw
  have key : ∀ (q m : Nat), i + m + q = j + 1 → ab_J x 5 [some (ab_O 0), none, some (ab_I j), some (ab_I (hd_sm (w.2 5).2 i m)), some (ab_I (i + m))] [] [w] 0 0 := by
    intro q
    induction q with
    | zero =>
      intro m hm
      have : m = (j + 1 - i).toNat := by omega
      subst this
      exact vX5_lasting_5 hx _ _ _ w 0 0 ⟨fun _ => ab_lf rfl rfl, fun h => absurd (by omega) h⟩
    | succ q ih =>
      intro m hm
      have hb := hd_sm_b (f := (w.2 5).2) (i := i) (B := 64) (m := m) (fun k a b => by have := (h6 k (by omega) (by omega)).2; omega)
      have hl := (h6 (i + m) (by omega) (by omega)).2
      refine vX5_lasting_5 hx _ _ _ w 0 0 ⟨fun h => absurd h (by omega), fun _ => ⟨by omega, by omega, by omega, ?_⟩⟩
      have := ih (m + 1) (by omega)
      simp only [hd_sm] at this
      have e : i + ((m + 1 : Nat) : Int) = i + m + 1 := by omega
      rw [e] at this
      exact this
  have := key (j + 1 - i).toNat 0 (by omega)
  simpa [hd_sm] using this
theorem c_weighted (d : Nat) (w : ab_Ob) (hw : sc_ok w) : ab_Ct (d + 1) 0 0 mX5_weighted [ab_O 0] [w] (ab_Is (hd_sm (fun r => if (w.2 6).2 r ≤ 0 then 0 else 1) 0 6) [w]) := by
  refine ab_ct kX5_weighted rfl rfl (fun x hx => vX5_weighted_0 hx w 0 0 ?_)
  have n6 := hw.1.2.2.1
  have key : ∀ (q m : Nat), m + q = 6 → ab_J x 4 [some (ab_O 0), some (ab_I (hd_sm (fun r => if (w.2 6).2 r ≤ 0 then 0 else 1) 0 m)), some (ab_I m)] [] [w] 0 0 := by
    intro q
    induction q with
    | zero =>
      intro m hm
      have : m = 6 := by omega
      subst this
      exact vX5_weighted_4 hx _ _ w 0 0 ⟨fun _ => ab_lf rfl rfl, fun h => absurd (by omega) h⟩
    | succ q ih =>
      intro m hm
      have hb := hd_sm_b (f := fun r => if (w.2 6).2 r ≤ 0 then 0 else 1) (i := 0) (B := 1) (m := m) (fun k a b => by split <;> omega)
      have := ih (m + 1) (by omega)
      simp only [hd_sm, Int.zero_add] at this
      refine vX5_weighted_4 hx _ _ w 0 0 ⟨fun h => absurd h (by omega), fun _ => ⟨by omega, fun g => ⟨by omega, by omega, ?_⟩, fun g => ⟨by omega, by omega, ?_⟩⟩⟩
      · rw [if_pos g] at this
        exact this
      · rw [if_neg g] at this
        exact this
  exact key 6 0 rfl
def sc_em (w v : ab_Ob) (m : Int) : Prop := v.1 0 = 1 ∧ v.1 1 = 1 ∧ v.1 2 = 0 ∧ v.1 3 = 0 ∧ (∀ f, f ≠ 6 → v.2 f = w.2 f) ∧ (v.2 6).1 = (w.2 6).1 ∧ ∀ r : Int, 0 ≤ r → r < m → (v.2 6).2 r = 0
theorem c_empty (d : Nat) (w : ab_Ob) (h6 : (w.2 6).1 = 6) : ab_Ct (d + 1) 0 0 mX5_empty [ab_O 0] [w] (ab_V1 (fun v => sc_em w v 6)) := by
  refine ab_ct kX5_empty rfl rfl (fun x hx => vX5_empty_0 hx w 0 0 ?_)
  have key : ∀ (q m : Nat) (v : ab_Ob), m + q = 6 → sc_em w v m → ab_J x 22 [some (ab_O 0), some (ab_I m)] [] [v] 0 0 := by
    intro q
    induction q with
    | zero =>
      intro m v hm hv
      have : m = 6 := by omega
      subst this
      exact vX5_empty_22 hx _ v 0 0 ⟨fun _ => ab_lv1 hv, fun h => absurd (by omega) h⟩
    | succ q ih =>
      intro m v hm hv
      obtain ⟨g1, g2, g3, g4, g5, g6, g7⟩ := hv
      refine vX5_empty_22 hx _ v 0 0 ⟨fun h => absurd h (by omega), fun _ => ⟨by omega, by omega, ?_⟩⟩
      have := ih (m + 1) (ab_pa v 6 m 0) (by omega) ⟨g1, g2, g3, g4, fun f hf => by rw [hd_pa_ne hf]; exact g5 f hf, by rw [hd_pa_len]; exact g6, fun r r1 r2 => by
        rw [hd_pa_eq]
        show ab_ui (v.2 6).2 m 0 r = 0
        by_cases hr : r = m
        · subst hr; rw [hd_ui_eq]
        · rw [hd_ui_ne hr]; exact g7 r r1 (by push_cast at r2; omega)⟩
      exact this
  exact key 6 0 (ab_pf (ab_pf (ab_pf (ab_pf w 0 1) 1 1) 2 0) 3 0) rfl ⟨by simp [ab_pf, ab_up], by simp [ab_pf, ab_up], by simp [ab_pf, ab_up], by simp [ab_pf, ab_up], fun f _ => rfl, rfl, fun r r1 r2 => absurd r2 (by omega)⟩
theorem c_addNote (d : Nat) (w : ab_Ob) (p l : Int) (hw : sc_len w) (hn : 0 ≤ w.1 3 ∧ w.1 3 < 24) : ab_Ct (d + 1) 0 0 mX5_addNote [ab_O 0, ab_I p, ab_I l] [w] (ab_V1 (fun v => v = ab_pf (ab_pa (ab_pa w 4 (w.1 3) p) 5 (w.1 3) l) 3 (w.1 3 + 1))) := by
  obtain ⟨n4, n5, n6, n7, n8, n9⟩ := hw
  exact ab_ct kX5_addNote rfl rfl (fun x hx => vX5_addNote_0 hx p l w 0 0 ⟨fun h => absurd h (by omega), fun _ => ⟨by omega, by omega, by omega, ab_lv1 rfl⟩⟩)
/-! twins -/
def sc_tw (w : ab_Ob) (i j n : Int) : Prop := i = j ∨ ((if i < j then j else i) + n < w.1 3 ∧ ∀ t : Int, 0 ≤ t → t < n → (w.2 4).2 (j + t) - (w.2 4).2 (i + t) = (w.2 4).2 j - (w.2 4).2 i ∧ (w.2 5).2 (j + t) = (w.2 5).2 (i + t) ∧ (w.2 8).2 (j + t) = (w.2 8).2 (i + t) ∧ (w.2 9).2 (j + t) = (w.2 9).2 (i + t))
theorem c_areTwins (d : Nat) (w : ab_Ob) (hw : sc_ok w) {i j n : Int} (hi : 0 ≤ i) (hj : 0 ≤ j) (hn : 1 ≤ n) (hi2 : i + n ≤ w.1 3) (hj2 : j + n ≤ w.1 3) : ab_Ct (d + 1) 0 0 mX5_areTwins [ab_O 0, ab_I i, ab_I j, ab_I n] [w] (ab_Bo (sc_tw w i j n) [w]) := by
  obtain ⟨⟨n4, n5, n6, n7, n8, n9⟩, h2, h3, h4, h5, h6, h7⟩ := hw
  have pi := (h6 i (by omega) (by omega)).1
  have pj := (h6 j (by omega) (by omega)).1
  refine ab_ct kX5_areTwins rfl rfl (fun x hx => ?_)
  have key : i ≠ j → (if i < j then j else i) + n < w.1 3 → ∀ (q m : Nat), (m : Int) + q = n → (∀ t : Int, 0 ≤ t → t < m → (w.2 4).2 (j + t) - (w.2 4).2 (i + t) = (w.2 4).2 j - (w.2 4).2 i ∧ (w.2 5).2 (j + t) = (w.2 5).2 (i + t) ∧ (w.2 8).2 (j + t) = (w.2 8).2 (i + t) ∧ (w.2 9).2 (j + t) = (w.2 9).2 (i + t)) → ab_J x 41 [some (ab_O 0), some (ab_I i), some (ab_I j), some (ab_I n), some (ab_I ((w.2 4).2 j - (w.2 4).2 i)), some (ab_I m)] [] [w] 0 0 := by
    intro hne hmx q
    induction q with
    | zero =>
      intro m hm hall
      exact vX5_areTwins_41 hx _ _ _ _ _ w 0 0 ⟨fun _ => ⟨ab_i11, ab_l1b rfl (Or.inr ⟨hmx, fun t t1 t2 => hall t t1 (by omega)⟩)⟩, fun h => absurd (by omega) h⟩
    | succ q ih =>
      intro m hm hall
      have p1 := (h6 (j + m) (by omega) (by omega)).1
      have p2 := (h6 (i + m) (by omega) (by omega)).1
      have no : ∀ {C : Prop}, (sc_tw w i j n → C) → ¬ C → ¬ sc_tw w i j n := fun h1 h2 h => h2 (h1 h)
      have tw : sc_tw w i j n → (w.2 4).2 (j + m) - (w.2 4).2 (i + m) = (w.2 4).2 j - (w.2 4).2 i ∧ (w.2 5).2 (j + m) = (w.2 5).2 (i + m) ∧ (w.2 8).2 (j + m) = (w.2 8).2 (i + m) ∧ (w.2 9).2 (j + m) = (w.2 9).2 (i + m) := fun h => by
        rcases h with h | h
        · exact absurd h hne
        · exact h.2 m (by omega) (by omega)
      refine vX5_areTwins_41 hx _ _ _ _ _ w 0 0 ⟨fun h => absurd h (by omega), fun _ => ⟨by omega, by omega, by omega, by omega, by omega, fun g1 => ⟨ab_i01, ab_l0b rfl (fun h => g1 (tw h).1)⟩, fun g1 => ⟨by omega, by omega, by omega, by omega, fun g2 => ⟨ab_i01, ab_l0b rfl (fun h => g2 (tw h).2.1)⟩, fun g2 => ⟨by omega, by omega, by omega, by omega, fun g3 => ⟨ab_i01, ab_l0b rfl (fun h => g3 (tw h).2.2.1)⟩, fun g3 => ⟨by omega, by omega, by omega, by omega, fun g4 => ⟨by omega, ?_⟩, fun g4 => ⟨ab_i01, ab_l0b rfl (fun h => g4 (tw h).2.2.2)⟩⟩⟩⟩⟩⟩
      exact ih (m + 1) (by push_cast; omega) (fun t t1 t2 => by
        by_cases ht : t = m
        · subst ht; exact ⟨g1, g2, g3, g4⟩
        · exact hall t t1 (by push_cast at t2; omega))
  refine vX5_areTwins_0 hx i j n w 0 0 ⟨fun h => ⟨by split <;> omega, fun g => ⟨by omega, by omega, by omega, ?_⟩, fun g => ⟨ab_i01, ab_l0b rfl ?_⟩⟩, fun h => ⟨ab_i11, ab_l1b rfl (Or.inl h)⟩⟩
  · exact key h g n.toNat 0 (by omega) (fun t t1 t2 => absurd t2 (by omega))
  · rintro (e | e)
    · exact h e
    · exact g e.1
/-- the first twin behind; none: -1 -/
def sc_nt (w : ab_Ob) (i n r : Int) : Prop := (r = -1 ∧ ∀ j : Int, i + n ≤ j → j + n ≤ w.1 3 → ¬ sc_tw w i j n) ∨ (i + n ≤ r ∧ r + n ≤ w.1 3 ∧ sc_tw w i r n ∧ ∀ j : Int, i + n ≤ j → j < r → ¬ sc_tw w i j n)
theorem c_nextTwin (d : Nat) (w : ab_Ob) (hw : sc_ok w) {i n : Int} (hi : 0 ≤ i) (hn : 1 ≤ n) (hi2 : i + n ≤ w.1 3) : ab_Ct (d + 2) 0 0 mX5_nextTwin [ab_O 0, ab_I i, ab_I n] [w] (fun rv v => v = [w] ∧ ∃ r, rv = some (ab_I r) ∧ sc_nt w i n r) := by
  have h2 := hw.2.1
  refine ab_ct kX5_nextTwin rfl rfl (fun x hx => vX5_nextTwin_0 hx i n w 0 0 ⟨by omega, ?_⟩)
  have key : ∀ (q m : Nat), i + n + m + n + q = w.1 3 + 1 → (∀ j : Int, i + n ≤ j → j < i + n + m → ¬ sc_tw w i j n) → ab_J x 4 [some (ab_O 0), some (ab_I i), some (ab_I n), some (ab_I (i + n + m))] [] [w] 0 0 := by
    intro q
    induction q with
    | zero =>
      intro m hm hall
      exact vX5_nextTwin_4 hx _ _ _ w 0 0 ⟨by omega, fun _ => ⟨⟨⟨_, rfl⟩, _, rfl, rfl⟩, rfl, _, rfl, Or.inl ⟨rfl, fun j j1 j2 => hall j j1 (by omega)⟩⟩, fun h => absurd (by omega) h⟩
    | succ q ih =>
      intro m hm hall
      refine vX5_nextTwin_4 hx _ _ _ w 0 0 ⟨by omega, fun h => absurd h (by omega), fun _ => ab_xb (c_areTwins d w hw hi (by omega) hn hi2 (by omega)) (fun e => ⟨fun h => absurd h (by decide), fun _ => ⟨⟨⟨_, rfl⟩, _, rfl, rfl⟩, rfl, _, rfl, Or.inr ⟨by omega, by omega, e, hall⟩⟩⟩) (fun e => ⟨fun _ => ⟨by omega, ?_⟩, fun h => absurd rfl h⟩)⟩
      have := ih (m + 1) (by push_cast; omega) (fun j j1 j2 => by
        by_cases hj : j = i + n + m
        · subst hj; exact e
        · exact hall j j1 (by push_cast at j2; omega))
      have e2 : i + n + ((m + 1 : Nat) : Int) = i + n + m + 1 := by omega
      rw [e2] at this
      exact this
  by_cases hc : i + n + n ≤ w.1 3 + 1
  · have := key (w.1 3 + 1 - (i + n + n)).toNat 0 (by omega) (fun j j1 j2 => absurd j2 (by omega))
    simpa using this
  · exact vX5_nextTwin_4 hx _ _ _ w 0 0 ⟨by omega, fun _ => ⟨⟨⟨_, rfl⟩, _, rfl, rfl⟩, rfl, _, rfl, Or.inl ⟨rfl, fun j j1 j2 => absurd j2 (by omega)⟩⟩, fun h => absurd (by omega) h⟩
/-! moving -/
def sc_cm (w : ab_Ob) (b : Int) : Prop := ∀ k : Int, 0 ≤ k → k < w.1 3 → 0 ≤ (w.2 4).2 k + b ∧ (w.2 4).2 k + b ≤ 99
theorem c_canMove (d : Nat) (w : ab_Ob) (hw : sc_ok w) {b : Int} (hb : -99 ≤ b ∧ b ≤ 99) : ab_Ct (d + 1) 0 0 mX5_canMove [ab_O 0, ab_I b] [w] (ab_Bo (sc_cm w b) [w]) := by
  obtain ⟨⟨n4, n5, n6, n7, n8, n9⟩, h2, h3, h4, h5, h6, h7⟩ := hw
  refine ab_ct kX5_canMove rfl rfl (fun x hx => vX5_canMove_0 hx b w 0 0 ?_)
  have key : ∀ (q m : Nat), (m : Int) + q = w.1 3 → (∀ k : Int, 0 ≤ k → k < m → 0 ≤ (w.2 4).2 k + b ∧ (w.2 4).2 k + b ≤ 99) → ab_J x 2 [some (ab_O 0), some (ab_I b), some (ab_I m)] [] [w] 0 0 := by
    intro q
    induction q with
    | zero =>
      intro m hm hall
      exact vX5_canMove_2 hx _ _ w 0 0 ⟨fun _ => ⟨ab_i11, ab_l1b rfl (fun k k1 k2 => hall k k1 (by omega))⟩, fun h => absurd (by omega) h⟩
    | succ q ih =>
      intro m hm hall
      have p1 := (h6 m (by omega) (by omega)).1
      refine vX5_canMove_2 hx _ _ w 0 0 ⟨fun h => absurd h (by omega), fun _ => ⟨by omega, by omega, fun g => ⟨ab_i01, ab_l0b rfl (fun h => by have := h m (by omega) (by omega); omega)⟩, fun g => ⟨by omega, by omega, fun g2 => ⟨by omega, ?_⟩, fun g2 => ⟨ab_i01, ab_l0b rfl (fun h => by have := h m (by omega) (by omega); omega)⟩⟩⟩⟩
      exact ih (m + 1) (by push_cast; omega) (fun k k1 k2 => by
        by_cases hk : k = m
        · subst hk; omega
        · exact hall k k1 (by push_cast at k2; omega))
  exact key (w.1 3).toNat 0 (by omega) (fun k k1 k2 => absurd k2 (by omega))
/-- the first m pitches are moved -/
def sc_mv (w v : ab_Ob) (b m : Int) : Prop := v.1 = w.1 ∧ (∀ f, f ≠ 4 → v.2 f = w.2 f) ∧ (v.2 4).1 = (w.2 4).1 ∧ ∀ k : Int, (v.2 4).2 k = if 0 ≤ k ∧ k < m then (w.2 4).2 k + b else (w.2 4).2 k
theorem c_moveAll (d : Nat) (w : ab_Ob) (hw : sc_ok w) {b : Int} (hb : -99 ≤ b ∧ b ≤ 99) : ab_Ct (d + 1) 0 0 mX5_moveAll [ab_O 0, ab_I b] [w] (ab_V1 (fun v => sc_mv w v b (w.1 3))) := by
  obtain ⟨⟨n4, n5, n6, n7, n8, n9⟩, h2, h3, h4, h5, h6, h7⟩ := hw
  refine ab_ct kX5_moveAll rfl rfl (fun x hx => vX5_moveAll_0 hx b w 0 0 ?_)
  have key : ∀ (q m : Nat) (v : ab_Ob), (m : Int) + q = w.1 3 → sc_mv w v b m → ab_J x 2 [some (ab_O 0), some (ab_I b), some (ab_I m)] [] [v] 0 0 := by
    intro q
    induction q with
    | zero =>
      intro m v hm hv
      have e3 : v.1 3 = w.1 3 := by rw [hv.1]
      exact vX5_moveAll_2 hx _ _ v 0 0 ⟨fun _ => ab_lv1 (by rw [← (by omega : (m : Int) = w.1 3)]; exact hv), fun h => absurd (by omega) h⟩
    | succ q ih =>
      intro m v hm hv
      obtain ⟨g1, g2, g3, g4⟩ := hv
      have e3 : v.1 3 = w.1 3 := by rw [g1]
      have p1 := (h6 m (by omega) (by omega)).1
      have e4 : (v.2 4).2 m = (w.2 4).2 m := by rw [g4, if_neg (by omega)]
      refine vX5_moveAll_2 hx _ _ v 0 0 ⟨fun h => absurd h (by omega), fun _ => ⟨by omega, by omega, by omega, by omega, ?_⟩⟩
      refine ih (m + 1) (ab_pa v 4 m ((v.2 4).2 m + b)) (by push_cast; omega) ⟨g1, fun f hf => by rw [hd_pa_ne hf]; exact g2 f hf, by rw [hd_pa_len]; exact g3, fun k => ?_⟩
      rw [hd_pa_eq]
      show ab_ui (v.2 4).2 m ((v.2 4).2 m + b) k = _
      by_cases hk : k = m
      · subst hk
        rw [hd_ui_eq, e4, if_pos (by push_cast; omega)]
      · rw [hd_ui_ne hk, g4]
        by_cases hk2 : 0 ≤ k ∧ k < m
        · rw [if_pos hk2, if_pos (by push_cast; omega)]
        · rw [if_neg hk2, if_neg (by push_cast; omega)]
  exact key (w.1 3).toNat 0 w (by omega) ⟨rfl, fun _ _ => rfl, rfl, fun k => by rw [if_neg (by omega)]⟩
