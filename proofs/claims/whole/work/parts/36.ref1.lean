/-! the reference, held against a score -/
/-- lengths of the reference's arrays -/
def md_len (m : ab_Ob) : Prop := (m.2 3).1 = 55 ∧ (m.2 25).1 = 24 ∧ (m.2 26).1 = 24 ∧ (m.2 27).1 = 13824 ∧ (m.2 28).1 = 13824 ∧ (m.2 29).1 = 13824 ∧ (m.2 30).1 = 13824
/-- the reference's numbers are the score's -/
def md_p (b m : ab_Ob) : Prop := m.1 8 = b.1 3 ∧ m.1 6 = b.1 0 ∧ m.1 7 = b.1 1 ∧ (m.2 3).2 54 = b.1 2 ∧ (∀ k : Int, 0 ≤ k → k < b.1 3 → (m.2 3).2 k = (b.2 4).2 k ∧ (m.2 3).2 (24 + k) = (b.2 5).2 k) ∧ ∀ r : Int, 0 ≤ r → r < 6 → (m.2 3).2 (48 + r) = (b.2 6).2 r
/-- a score whose derived numbers are right -/
def sc_dd (b : ab_Ob) : Prop := ∀ k : Int, 0 ≤ k → k < b.1 3 → (b.2 7).2 k = hd_sm (b.2 5).2 0 k.toNat ∧ (b.2 8).2 k = sc_st (b.1 0) (b.1 1) (hd_sm (b.2 5).2 0 k.toNat) ∧ (b.2 9).2 k = sc_sb ((b.2 4).2 k) (b.1 2)
theorem sc_st_b (x y t : Int) : 0 ≤ sc_st x y t ∧ sc_st x y t ≤ 3 := by
  unfold sc_st
  repeat' split
  all_goals omega
theorem sc_sb_b (p k : Int) : 0 ≤ sc_sb p k ∧ sc_sb p k ≤ 2 := by
  unfold sc_sb
  repeat' split
  all_goals omega
theorem sc_dd_db {b : ab_Ob} (h : sc_dd b) : sc_db b := fun k k0 k1 => by
  obtain ⟨_, h2, h3⟩ := h k k0 k1
  rw [h2, h3]
  exact ⟨sc_st_b _ _ _, sc_sb_b _ _⟩
/-- the reference's derived numbers are the score's -/
def md_d (b m : ab_Ob) : Prop := ∀ k : Int, 0 ≤ k → k < b.1 3 → (m.2 25).2 k = (b.2 8).2 k ∧ (m.2 26).2 k = (b.2 9).2 k
theorem sc_abs_c (a b : Int) : sc_abs (a - b) = sc_abs (b - a) := by
  unfold sc_abs
  repeat' split
  all_goals omega
theorem c9_in (d : Nat) (a l h : Int) : ab_Ct (d + 1) 0 0 mX9_in [ab_I a, ab_I l, ab_I h] [] (ab_Bo (l ≤ a ∧ a ≤ h) []) := by
  exact ab_ct kX9_in rfl rfl (fun x hx => vX9_in_0 hx a l h 0 0 ⟨fun g => ⟨ab_i01, ab_l0b rfl (by omega)⟩, fun g => ⟨fun g2 => ⟨ab_i01, ab_l0b rfl (by omega)⟩, fun g2 => ⟨ab_i11, ab_l1b rfl (by omega)⟩⟩⟩)
theorem c9_above (d : Nat) (a b : Int) (h : -1000000 ≤ a ∧ a ≤ 1000000) (h' : -1000000 ≤ b ∧ b ≤ 1000000) : ab_Ct (d + 1) 0 0 mX9_above [ab_I a, ab_I b] [] (ab_Is (sc_ex a b) []) := by
  refine ab_ct kX9_above rfl rfl (fun x hx => vX9_above_0 hx a b 0 0 ⟨fun h => ab_lf rfl ?_, fun h => ⟨by omega, ab_lf rfl ?_⟩⟩)
  · unfold sc_ex; rw [if_neg (by omega)]
  · unfold sc_ex; rw [if_pos (by omega)]
theorem c9_apart (d : Nat) (a b : Int) (h : -1000000 ≤ a ∧ a ≤ 1000000) (h' : -1000000 ≤ b ∧ b ≤ 1000000) : ab_Ct (d + 1) 0 0 mX9_apart [ab_I a, ab_I b] [] (ab_Is (sc_abs (a - b)) []) := by
  refine ab_ct kX9_apart rfl rfl (fun x hx => vX9_apart_0 hx a b 0 0 ⟨fun h => ⟨by omega, ab_lf rfl ?_⟩, fun h => ⟨by omega, ab_lf rfl ?_⟩⟩)
  · unfold sc_abs; split <;> omega
  · unfold sc_abs; split <;> omega
theorem c9_pitchOf (d : Nat) (m : ab_Ob) (h3 : (m.2 3).1 = 55) {k : Int} (h0 : 0 ≤ k) (h1 : k < 24) : ab_Ct (d + 1) 0 0 mX9_pitchOf [ab_O 0, ab_I k] [m] (ab_Is ((m.2 3).2 k) [m]) := by
  have e : (0 : Int) + k = k := by omega
  exact ab_ct kX9_pitchOf rfl rfl (fun x hx => vX9_pitchOf_0 hx k m 0 0 ⟨by omega, by omega, ab_lf rfl (by rw [e])⟩)
theorem c9_lasts (d : Nat) (m : ab_Ob) (h3 : (m.2 3).1 = 55) {k : Int} (h0 : 0 ≤ k) (h1 : k < 24) : ab_Ct (d + 1) 0 0 mX9_lasts [ab_O 0, ab_I k] [m] (ab_Is ((m.2 3).2 (24 + k)) [m]) :=
  ab_ct kX9_lasts rfl rfl (fun x hx => vX9_lasts_0 hx k m 0 0 ⟨by omega, by omega, ab_lf rfl rfl⟩)
theorem c9_beginOf (d : Nat) (b m : ab_Ob) (hb : sc_ok b) (hp : md_p b m) (h3 : (m.2 3).1 = 55) {k : Int} (h0 : 0 ≤ k) (h1 : k ≤ b.1 3) : ab_Ct (d + 2) 0 0 mX9_beginOf [ab_O 0, ab_I k] [m] (ab_Is (hd_sm (b.2 5).2 0 k.toNat) [m]) := by
  have hn := hb.2.1
  refine ab_ct kX9_beginOf rfl rfl (fun x hx => vX9_beginOf_0 hx k m 0 0 ?_)
  have key : ∀ (q i : Nat), (i : Int) + q = k → ab_J x 4 [some (ab_O 0), some (ab_I k), some (ab_I (hd_sm (b.2 5).2 0 i)), some (ab_I i)] [] [m] 0 0 := by
    intro q
    induction q with
    | zero =>
      intro i hi
      have : i = k.toNat := by omega
      subst this
      exact vX9_beginOf_4 hx _ _ _ m 0 0 ⟨fun _ => ab_lf rfl rfl, fun g => absurd (by omega) g⟩
    | succ q ih =>
      intro i hi
      have hl := (hb.2.2.2.2.2.1 i (by omega) (by omega)).2
      have e := (hp.2.2.2.2.1 i (by omega) (by omega)).2
      have bb := hd_sm_b (f := (b.2 5).2) (i := 0) (B := 64) (m := i) (fun k a c => by have := (hb.2.2.2.2.2.1 k a (by omega)).2; omega)
      refine vX9_beginOf_4 hx _ _ _ m 0 0 ⟨fun g => absurd g (by omega), fun _ => ab_x1 (c9_lasts d m h3 (by omega) (by omega)) ⟨by omega, by omega, ?_⟩⟩
      have := ih (i + 1) (by push_cast; omega)
      simp only [hd_sm, Int.zero_add] at this
      rw [e]
      exact this
  exact key k.toNat 0 (by omega)
theorem hd_tm {a b : Int} (ha : 0 ≤ a ∧ a ≤ 1000000) (hb : 1 ≤ b ∧ b ≤ 1000000) : 0 ≤ a.tmod b ∧ a.tmod b ≤ 1000000 := by
  have h1 : 0 ≤ a.tmod b := Int.tmod_nonneg b ha.1
  have h2 : a.tmod b < b := Int.tmod_lt_of_pos a (by omega)
  omega
theorem c9_strength (d : Nat) (b m : ab_Ob) (hb : sc_ok b) (hp : md_p b m) (h3 : (m.2 3).1 = 55) {k : Int} (h0 : 0 ≤ k) (h1 : k < b.1 3) : ab_Ct (d + 3) 0 0 mX9_strength [ab_O 0, ab_I k] [m] (ab_Is (sc_st (b.1 0) (b.1 1) (hd_sm (b.2 5).2 0 k.toNat)) [m]) := by
  have hn := hb.2.1
  have hbar := hb.2.2.1
  have hbeat := hb.2.2.2.1
  have e6 := hp.2.1
  have e7 := hp.2.2.1
  have bb := hd_sm_b (f := (b.2 5).2) (i := 0) (B := 64) (m := k.toNat) (fun k a c => by have := (hb.2.2.2.2.2.1 k a (by omega)).2; omega)
  refine ab_ct kX9_strength rfl rfl (fun x hx => vX9_strength_0 hx k m 0 0 (ab_x1 (c9_beginOf d b m hb hp h3 h0 (by omega)) ?_))
  rw [e6, e7]
  generalize hd_sm (b.2 5).2 0 k.toNat = t at bb ⊢
  have t1 := hd_tm (a := t) (b := b.1 0) (by omega) (by omega)
  have t2 := hd_tm (a := 2 * t) (b := b.1 0) (by omega) (by omega)
  have t3 := hd_tm (a := t) (b := b.1 1) (by omega) (by omega)
  refine ⟨by omega, by omega, fun g1 => ⟨by omega, by omega, by omega, fun g2 => ⟨by omega, by omega, fun g3 => ab_lf rfl ?_, fun g3 => ab_lf rfl ?_⟩, fun g2 => ab_lf rfl ?_⟩, fun g1 => ab_lf rfl ?_⟩
  · simp [sc_st, g1, g2, g3]
  · simp [sc_st, g1, g2, g3]
  · simp [sc_st, g1, g2]
  · simp [sc_st, g1]
theorem c9_stable (d : Nat) (b m : ab_Ob) (hb : sc_ok b) (hp : md_p b m) (h3 : (m.2 3).1 = 55) {k : Int} (h0 : 0 ≤ k) (h1 : k < b.1 3) : ab_Ct (d + 2) 0 0 mX9_stable [ab_O 0, ab_I k] [m] (ab_Is (sc_sb ((b.2 4).2 k) (b.1 2)) [m]) := by
  have hn := hb.2.1
  have hk := hb.2.2.2.2.1
  have e4 := hp.2.2.2.1
  have ep := (hp.2.2.2.2.1 k h0 h1).1
  have hpk := (hb.2.2.2.2.2.1 k h0 h1).1
  refine ab_ct kX9_stable rfl rfl (fun x hx => vX9_stable_0 hx k m 0 0 (ab_x1 (c9_pitchOf d m h3 h0 (by omega)) ?_))
  rw [e4, ep]
  have t : Int.tmod ((b.2 4).2 k - b.1 2 + 12) 12 = ((b.2 4).2 k - b.1 2) % 12 := by
    rw [Int.tmod_eq_emod_of_nonneg (by omega)]
    omega
  rw [t]
  refine ⟨by omega, by omega, by omega, by decide, by omega, fun g1 => ⟨fun g2 => ab_lf rfl ?_, fun g2 => ⟨fun g3 => ab_lf rfl ?_, fun g3 => ab_lf rfl ?_⟩⟩, fun g1 => ab_lf rfl ?_⟩
  · simp [sc_sb, g2]
  · simp [sc_sb, g1, g2, g3]
  · simp [sc_sb, g3]
  · simp [sc_sb, g1]
theorem c9_brokenBy (d : Nat) (b m : ab_Ob) (hb : sc_ok b) (hd : sc_db b) (hp : md_p b m) (hq : md_d b m) (hl : md_len m) {rule h u l r : Int} (hr0 : 0 ≤ rule ∧ rule < 6) (hh : 0 ≤ h ∧ h < b.1 3) (hu : 0 ≤ u ∧ u < b.1 3) (hlf : 1 ≤ l ∧ l ≤ 24) (hr : 1 ≤ r ∧ r ≤ 24) : ab_Ct (d + 2) 0 0 mX9_brokenBy [ab_O 0, ab_I rule, ab_I h, ab_I u, ab_I l, ab_I r] [m] (ab_Is ((b.2 6).2 rule * sc_un b rule h u l r) [m]) := by
  have hn := hb.2.1
  have bm := sc_mul_b (hb.2.2.2.2.2.2 rule hr0.1 hr0.2) (sc_un_b hb hd (rule := rule) hh hu hlf hr)
  have ew := hp.2.2.2.2.2 rule hr0.1 hr0.2
  have e8 := hp.1
  obtain ⟨n3, n25, n26, _⟩ := hl
  have a1 := hb.2.2.2.2.2.1 h hh.1 hh.2
  have a2 := hb.2.2.2.2.2.1 u hu.1 hu.2
  have a3 := hd h hh.1 hh.2
  have a4 := hd u hu.1 hu.2
  obtain ⟨p1, p2⟩ := hp.2.2.2.2.1 h hh.1 hh.2
  obtain ⟨p3, p4⟩ := hp.2.2.2.2.1 u hu.1 hu.2
  obtain ⟨q1, q2⟩ := hq h hh.1 hh.2
  obtain ⟨q3, q4⟩ := hq u hu.1 hu.2
  have cm := Int.mul_comm ((b.2 6).2 rule) (sc_un b rule h u l r)
  refine ab_ct kX9_brokenBy rfl rfl (fun x hx => vX9_brokenBy_0 hx rule h u l r m 0 0 ?_)
  simp only [ew, e8, q1, q2, q3, q4]
  have fin : ∀ z, z = sc_un b rule h u l r → (-2147483648 ≤ z * (b.2 6).2 rule ∧ z * (b.2 6).2 rule ≤ 2147483647) ∧ z * (b.2 6).2 rule = (b.2 6).2 rule * sc_un b rule h u l r := by
    intro z hz
    rw [hz, ← cm]
    omega
  refine ⟨fun e => ⟨by omega, fun f => ?_, fun f => ?_⟩, fun e => ⟨by omega, by omega, ab_x1 (c9_above d _ _ (by omega) (by omega)) ?_⟩, fun e => ab_x1 (c9_lasts d m n3 (by omega) (by omega)) (ab_x1 (c9_lasts d m n3 (by omega) (by omega)) ?_), fun e => ⟨by omega, by omega, ab_x1 (c9_above d _ _ (by omega) (by omega)) ?_⟩, fun e => ab_x1 (c9_pitchOf d m n3 (by omega) (by omega)) (ab_x1 (c9_pitchOf d m n3 (by omega) (by omega)) ?_), fun e => ab_x1 (c9_apart d _ _ (by omega) (by omega)) ?_, trivial⟩
  · have := fin 0 (by have e5 : rule = 5 := by omega
                      subst e5; simp [sc_un, f])
    exact ⟨by omega, by omega, this.1, ab_lf rfl this.2⟩
  · have := fin 1 (by have e5 : rule = 5 := by omega
                      subst e5; simp [sc_un, f])
    exact ⟨by omega, by omega, this.1, ab_lf rfl this.2⟩
  · have := fin (sc_ex ((b.2 8).2 u) ((b.2 8).2 h)) (by subst e; simp [sc_un])
    exact ⟨by omega, by omega, this.1, ab_lf rfl this.2⟩
  · rw [p4, p2]
    refine ab_x1 (c9_above d _ _ (by omega) (by omega)) ?_
    have := fin (sc_ex ((b.2 5).2 u) ((b.2 5).2 h)) (by subst e; simp [sc_un])
    exact ⟨by omega, by omega, this.1, ab_lf rfl this.2⟩
  · have := fin (sc_ex ((b.2 9).2 u) ((b.2 9).2 h)) (by subst e; simp [sc_un])
    exact ⟨by omega, by omega, this.1, ab_lf rfl this.2⟩
  · rw [p1, p3]
    have ea : sc_abs ((b.2 4).2 h - (b.2 4).2 u) = sc_abs ((b.2 4).2 u - (b.2 4).2 h) := sc_abs_c _ _
    have eb : 0 ≤ sc_abs ((b.2 4).2 h - (b.2 4).2 u) ∧ sc_abs ((b.2 4).2 h - (b.2 4).2 u) ≤ 99 := by unfold sc_abs; split <;> omega
    refine ab_x1 (c9_apart d _ _ (by omega) (by omega)) (ab_x1 (c9_above d _ _ (by omega) (by omega)) ?_)
    have := fin (sc_ex (sc_abs ((b.2 4).2 h - (b.2 4).2 u)) 2) (by subst e; rw [ea]; simp [sc_un])
    exact ⟨by omega, by omega, this.1, ab_lf rfl this.2⟩
  · have := fin (sc_abs (l - r)) (by subst e; simp [sc_un])
    exact ⟨by omega, by omega, this.1, ab_lf rfl this.2⟩
theorem c9_brokenAll (d : Nat) (b m : ab_Ob) (hb : sc_ok b) (hd : sc_db b) (hp : md_p b m) (hq : md_d b m) (hl : md_len m) {h u l r : Int} (hh : 0 ≤ h ∧ h < b.1 3) (hu : 0 ≤ u ∧ u < b.1 3) (hlf : 1 ≤ l ∧ l ≤ 24) (hr : 1 ≤ r ∧ r ≤ 24) : ab_Ct (d + 3) 0 0 mX9_brokenAll [ab_O 0, ab_I h, ab_I u, ab_I l, ab_I r] [m] (ab_Is (sc_br b h u l r) [m]) := by
  refine ab_ct kX9_brokenAll rfl rfl (fun x hx => vX9_brokenAll_0 hx h u l r m 0 0 ?_)
  have key : ∀ (j k : Nat), k + j = 6 → ab_J x 6 [some (ab_O 0), some (ab_I h), some (ab_I u), some (ab_I l), some (ab_I r), some (ab_I (hd_sm (fun q => (b.2 6).2 q * sc_un b q h u l r) 0 k)), some (ab_I k)] [] [m] 0 0 := by
    intro j
    induction j with
    | zero =>
      intro k hk
      have : k = 6 := by omega
      subst this
      exact vX9_brokenAll_6 hx _ _ _ _ _ _ m 0 0 ⟨fun _ => ab_lf rfl rfl, fun h => absurd (by omega) h⟩
    | succ j ih =>
      intro k hk
      have b1 := sc_br_b hb hd hh hu hlf hr k (by omega)
      have b2 := sc_br_b hb hd hh hu hlf hr (k + 1) (by omega)
      simp only [hd_sm, Int.zero_add] at b2
      refine vX9_brokenAll_6 hx _ _ _ _ _ _ m 0 0 ⟨fun h => absurd h (by omega), fun _ => ab_x1 (c9_brokenBy d b m hb hd hp hq hl (by omega) hh hu hlf hr) ⟨by omega, by omega, ?_⟩⟩
      have := ih (k + 1) (by omega)
      simp only [hd_sm, Int.zero_add] at this
      exact this
  exact key 6 0 rfl
def md_cu (i j h : Int) : Int := (i * 24 + j) * 24 + h
theorem c9_cube (d : Nat) {i j h : Int} (hi : 0 ≤ i ∧ i ≤ 23) (hj : 0 ≤ j ∧ j ≤ 23) (hh : 0 ≤ h ∧ h ≤ 23) : ab_Ct (d + 1) 0 0 mX9_cube [ab_I i, ab_I j, ab_I h] [] (ab_Is (md_cu i j h) []) :=
  ab_ct kX9_cube rfl rfl (fun x hx => vX9_cube_0 hx i j h 0 0 ⟨by omega, by omega, by omega, by omega, ab_lf rfl rfl⟩)
theorem md_cu_b {i j h : Int} (hi : 0 ≤ i ∧ i ≤ 23) (hj : 0 ≤ j ∧ j ≤ 23) (hh : 0 ≤ h ∧ h ≤ 23) : 0 ≤ md_cu i j h ∧ md_cu i j h < 13824 := by unfold md_cu; omega
theorem md_cu_inj {i j h i' j' h' : Int} (hj : 0 ≤ j ∧ j ≤ 23) (hh : 0 ≤ h ∧ h ≤ 23) (hj' : 0 ≤ j' ∧ j' ≤ 23) (hh' : 0 ≤ h' ∧ h' ≤ 23) (e : md_cu i j h = md_cu i' j' h') : i = i' ∧ j = j' ∧ h = h' := by unfold md_cu at e; omega
theorem c9_headOf (d : Nat) (m : ab_Ob) (h27 : (m.2 27).1 = 13824) {i j : Int} (h0 : 0 ≤ i) (h1 : i ≤ j) (h2 : j ≤ 23) : ab_Ct (d + 2) 0 0 mX9_headOf [ab_O 0, ab_I i, ab_I j] [m] (ab_Is (hd_am (fun h => (m.2 27).2 (md_cu i j h)) i (j - i).toNat) [m]) := by
  refine ab_ct kX9_headOf rfl rfl (fun x hx => vX9_headOf_0 hx i j m 0 0 ⟨by omega, ?_⟩)
  have key : ∀ (q k : Nat), i + k + q = j → ab_J x 7 [some (ab_O 0), some (ab_I i), some (ab_I j), some (ab_I (hd_am (fun h => (m.2 27).2 (md_cu i j h)) i k)), some (ab_I (i + k + 1))] [] [m] 0 0 := by
    intro q
    induction q with
    | zero =>
      intro k hk
      have : k = (j - i).toNat := by omega
      subst this
      exact vX9_headOf_7 hx _ _ _ _ m 0 0 ⟨fun _ => ab_lf rfl rfl, fun h => absurd (by omega) h⟩
    | succ q ih =>
      intro k hk
      have ha := hd_am_in (fun h => (m.2 27).2 (md_cu i j h)) i k
      have := ih (k + 1) (by push_cast; omega)
      simp only [hd_am] at this
      have e1 : i + ((k + 1 : Nat) : Int) = i + k + 1 := by omega
      rw [e1] at this
      have b1 := md_cu_b (i := i) (j := j) (h := i + k + 1) (by omega) (by omega) (by omega)
      have b2 := md_cu_b (i := i) (j := j) (h := hd_am (fun h => (m.2 27).2 (md_cu i j h)) i k) (by omega) (by omega) (by omega)
      refine vX9_headOf_7 hx _ _ _ _ m 0 0 ⟨fun h => absurd h (by omega), fun _ => ab_x1 (c9_cube d (by omega) (by omega) (by omega)) ⟨by omega, ab_x1 (c9_cube d (by omega) (by omega) (by omega)) ⟨by omega, fun g => ⟨by omega, ?_⟩, fun g => ⟨by omega, ?_⟩⟩⟩⟩
      · rw [if_neg (by omega)] at this
        exact this
      · rw [if_pos (by omega)] at this
        exact this
  have := key (j - i).toNat 0 (by omega)
  simpa [hd_am] using this
